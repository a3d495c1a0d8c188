/** Promises 16 to 20: where to stand, where the fold be, as what, how fast a wolf, whom to tether. */
public final class StandTest {
    private static final Check check = new Check();

    public static void main(String[] args) {
        standFor();
        foldFor();
        kindFor();
        paceFor();
        tether();
        tetherOfSeveral();
        nothingChanges();
        check.end();
    }

    private static StraySheep quietHill() {
        StraySheep x = new StraySheep();
        x.go(1);
        return x;
    }

    private static void standFor() {
        StraySheep x = quietHill();
        x.set(2, 10);
        x.set(3, 0);
        x.sheep(0, 10);
        check.due("16: near the wolf", x.standFor(1), 9);
        check.due("16: now", x.standFor(0), 0);
        check.due("16: below", x.standFor(-1), Check.BEYOND);
        check.due("16: above", x.standFor(41), Check.BEYOND);
        check.yes("16: behind 40", x.standFor(40) >= 0 && x.standFor(40) < 16);
        x.set(2, 0);
        x.change(0, 1, 2);
        check.due("16: at the row's begin", x.standFor(1), 0);
        x.set(2, 15);
        x.change(0, 1, 15);
        check.due("16: at the row's end", x.standFor(1), 14);
        StraySheep y = Check.carrying(0);
        check.due("16: one is carried", y.standFor(1), Check.STATE);
        check.due("16: BEYOND is asked first", y.standFor(41), Check.BEYOND);
        check.due("16: without sheep", new StraySheep().standFor(40), 0);
    }

    private static void foldFor() {
        StraySheep x = quietHill();
        x.sheep(0, 6);
        x.sheep(0, 3);
        x.sheep(0, 6);
        check.due("17: where most are", x.foldFor(1), 6);
        x.change(1, 3, 500);
        check.due("17: where the one longest lost is", x.foldFor(1), 3);
        check.due("17: now", x.foldFor(0), 0);
        check.due("17: below", x.foldFor(-1), Check.BEYOND);
        check.due("17: above", x.foldFor(41), Check.BEYOND);
        StraySheep y = quietHill();
        y.sheep(0, 12);
        y.sheep(0, 9);
        check.due("17: of several the least", y.foldFor(1), 9);
        StraySheep z = Check.carrying(0);
        int cell = z.hill(1);
        z.change(0, 3, 700);
        check.yes("17: also while one is carried", z.foldFor(1) >= cell - 2 && z.foldFor(1) <= cell);
    }

    private static void kindFor() {
        StraySheep x = quietHill();
        x.sheep(0, 2);
        check.due("18: an orphan is home first", x.kindFor(0, 5), 4);
        check.due("18: others an hour later", x.kindFor(0, 6), 0);
        check.due("18: now", x.kindFor(0, 0), 0);
        check.due("18: none is home yet", x.kindFor(0, 4), 0);
        int[][] wrong = {{-1, 0}, {1, 0}, {0, -1}, {0, 41}};
        for (int[] w : wrong) {
            check.due("18: kindFor(" + w[0] + ", " + w[1] + ")", x.kindFor(w[0], w[1]), Check.BEYOND);
        }
        check.yes("18: behind 40", x.kindFor(0, 40) >= 0 && x.kindFor(0, 40) < 7);
        x.change(0, 0, 4);
        check.due("18: whatever it is", x.kindFor(0, 6), 0);
    }

    private static void paceFor() {
        StraySheep x = quietHill();
        x.sheep(0, 10);
        x.set(2, 15);
        check.due("19: no fear", x.paceFor(0, 1), 2);
        check.due("19: fear 8", x.paceFor(8, 1), 2);
        check.due("19: fear 9", x.paceFor(9, 1), 5);
        x.change(0, 2, 50);
        check.due("19: too much at any pace", x.paceFor(48, 1), Check.NONE);
        check.due("19: enough for some", x.paceFor(49, 1), 2);
        check.due("19: now, too much", x.paceFor(49, 0), Check.NONE);
        check.due("19: now", x.paceFor(50, 0), 5);
        int[][] wrong = {{-1, 0}, {1000, 0}, {0, -1}, {0, 41}};
        for (int[] w : wrong) {
            check.due("19: paceFor(" + w[0] + ", " + w[1] + ")", x.paceFor(w[0], w[1]), Check.BEYOND);
        }
        check.due("19: 999 is always enough", x.paceFor(999, 40), 5);
        StraySheep y = quietHill();
        y.sheep(0, 8);
        y.set(2, 11);
        check.due("19: a wolf that must not move", y.paceFor(0, 1), 0);
    }

    private static void tether() {
        StraySheep x = new StraySheep();
        check.due("20: without sheep", x.tether(20), 0);
        x.sheep(5, 1);
        x.sheep(0, 2);
        x.sheep(0, 0);
        check.due("20: none is far now", x.tether(0), 0);
        check.due("20: the two that would be", x.tether(1), 3);
        x.change(2, 1, 3);
        check.due("20: one is far already", x.tether(0), Check.NONE);
        check.due("20: and stays so", x.tether(1), Check.NONE);
        check.due("20: below", x.tether(-1), Check.BEYOND);
        check.due("20: above", x.tether(21), Check.BEYOND);
        StraySheep y = new StraySheep();
        for (int i = 0; i < 8; i++) {
            y.sheep(5, 0);
        }
        check.due("20: all of eight", y.tether(2), 255);
    }

    /** Of two wanderers the keeper brings back one: either of them may be tethered. */
    private static void tetherOfSeveral() {
        StraySheep x = quietHill();
        x.set(1, 2);
        x.sheep(5, 2);
        x.sheep(5, 2);
        check.due("20: of several the least", x.tether(3), 1);
        x.sheep(5, 15);
        check.due("20: none for which there is no help", x.tether(3), Check.NONE);
        StraySheep y = quietHill();
        y.sheep(5, 0);
        y.sheep(0, 0);
        y.sheep(5, 0);
        check.due("20: the fewest, not the least number", y.tether(2), 5);
    }

    private static void nothingChanges() {
        StraySheep x = new StraySheep();
        x.sheep(5, 3);
        x.set(2, 9);
        x.standFor(7);
        x.foldFor(7);
        x.kindFor(0, 7);
        x.paceFor(100, 7);
        x.tether(7);
        check.due("16 to 20: hour", x.now(0), 0);
        check.due("16 to 20: kind", x.of(0, 0), 5);
        check.due("16 to 20: cell", x.of(0, 1), 3);
        int[] hill = {0, 0, 9, 1, -1};
        for (int what = 0; what < 5; what++) {
            check.due("16 to 20: hill(" + what + ")", x.hill(what), hill[what]);
        }
    }
}
