/** Counts the answers that are not as due; a test ends with exit code 1 if there was one. */
final class Check {
    static final int BEYOND = -1000001;
    static final int FULL = -1000002;
    static final int KIND = -1000003;
    static final int NONE = -1000004;
    static final int STATE = -1000005;
    static final int MISSING = -1000006;
    static final int SIZE = -1000007;

    private int wrong = 0;
    private int asked = 0;

    void due(String what, long got, long want) {
        asked++;
        if (got != want) {
            wrong++;
            System.out.println(what + " answered " + got + ", due is " + want);
        }
    }

    void yes(String what, boolean so) {
        due(what, so ? 1 : 0, 1);
    }

    void end() {
        if (asked == 0 || wrong != 0) {
            System.out.println(wrong + " of " + asked + " answers are not as due");
            System.exit(1);
        }
        System.out.println(asked + " answers are as due");
    }

    /** Feeds a text to the tape, four bytes a call. */
    static void feed(StraySheep x, String text) {
        for (int i = 0; i < text.length(); i += 4) {
            int n = Math.min(4, text.length() - i);
            int bytes = 0;
            for (int j = 0; j < n; j++) {
                bytes = bytes << 8 | (text.charAt(i + j) & 255);
            }
            x.feed(bytes, n);
        }
    }

    static int read(StraySheep x, String text) {
        x.wipe();
        feed(x, text);
        return x.text();
    }

    /** A hill on which a sheep of a kind is carried by the keeper, AT a cell of 4 or more; fold 0, hour 3. */
    static StraySheep carrying(int kind) {
        StraySheep x = new StraySheep();
        x.sheep(kind, 4);
        for (int i = 0; i < 10 && x.hill(4) == -1; i++) {
            x.change(0, 1, 4);
            x.set(1, 4);
            x.go(1);
        }
        return x;
    }
}
