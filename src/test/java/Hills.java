/** Hills with which several tests begin, and texts fed to their tapes. */
final class Hills {
    private Hills() {
    }

    /** HOUR 1, at which a plain sheep stays where it is; no sheep yet. */
    static StraySheep quiet() {
        StraySheep x = new StraySheep();
        x.go(1);
        return x;
    }

    /** HOUR 1, the fold AT 0; the keeper is AT a cell and carries sheep 0, of a kind. */
    static StraySheep carrying(int kind, int cell) {
        StraySheep x = new StraySheep();
        x.sheep(kind, 9);
        x.set(1, 9);
        // It goes 2 cells at most, and so does he.
        x.go(1);
        x.set(1, cell);
        return x;
    }

    /** A sheet has these numbers. */
    static void tell(StraySheep x, int s, int bits, int... numbers) {
        x.sheet(s, bits, numbers.length);
        for (int i = 0; i < numbers.length; i++) {
            x.write(s, i, numbers[i]);
        }
    }

    /** Feeds a text to the tape, four bytes a call. */
    static void feed(StraySheep x, String text) {
        for (int i = 0; i < text.length(); i += 4) {
            int n = Math.min(4, text.length() - i);
            int bytes = 0;
            for (int j = 0; j < n; j++) {
                bytes = bytes << 8 | (text.charAt(i + j) & 255);
            }
            x.feed(bytes, n);
        }
    }

    /** What text() answers to a text that stands alone on the tape. */
    static int read(StraySheep x, String text) {
        x.wipe();
        feed(x, text);
        return x.text();
    }
}
