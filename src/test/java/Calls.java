import java.util.Arrays;

/** The calls of the face by the numbers of their promises. */
final class Calls {
    private Calls() {
    }

    /** Numbers that aren't given are 0. */
    static long call(StraySheep x, int promise, int... given) {
        int[] a = Arrays.copyOf(given, 5);
        switch (promise) {
            case 2: return x.set(a[0], a[1]);
            case 3: return x.hill(a[0]);
            case 4: return x.sheep(a[0], a[1]);
            case 5: return x.of(a[0], a[1]);
            case 6: return x.change(a[0], a[1], a[2]);
            case 7: return x.drop();
            case 8: return x.who(a[0]);
            case 9: return x.go(a[0]);
            case 10: return x.now(a[0]);
            case 11: return x.ahead(a[0], a[1], a[2]);
            case 12: return x.later(a[0], a[1]);
            case 13: return x.when(a[0], a[1]);
            case 14: return x.home();
            case 15: return x.panic(a[0], a[1]);
            case 16: return x.standFor(a[0]);
            case 17: return x.foldFor(a[0]);
            case 18: return x.kindFor(a[0], a[1]);
            case 19: return x.paceFor(a[0], a[1]);
            case 20: return x.tether(a[0]);
            case 21: return x.fits(a[0], a[1]);
            case 22: return x.kinds(a[0], a[1]);
            case 23: return x.nights(a[0]);
            case 24: return x.odds(a[0], a[1], a[2]);
            case 25: return x.seed(a[0]);
            case 26: return x.feed(a[0], a[1]);
            case 27: return x.wipe();
            case 28: return x.text();
            case 29: return x.hold(a[0], a[1]);
            case 30: return x.as(a[0], a[1]);
            case 31: return x.sheet(a[0], a[1], a[2]);
            case 32: return x.write(a[0], a[1], a[2]);
            case 33: return x.copy(a[0], a[1], a[2], a[3], a[4]);
            case 34: return x.load(a[0]);
            case 35: return x.judge(a[0]);
            case 36: return x.image();
            case 37: return x.undo();
            case 38: return x.tear();
            case 39: return x.count(a[0]);
            default: return x.status(a[0]);
        }
    }
}
