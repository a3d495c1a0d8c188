/** Promises 16 to 20: where to stand, where the fold be, as what, how fast a wolf, whom to tether. */
public final class StandTest {
    private static final Check check = new Check();

    private static final String[] HILLS = {
        "sheep at 5;ram at 7 fear 55;ewe at 4 fear 30;lamb at 9;wanderer at 10;fold 4;wolf 12 pace 2",
        "lamb at 13 fear 90 lost 40;orphan at 2;ewe at 11;wolf 3 pace 5;fold 9;keeper 15",
        "wanderer at 1;wanderer at 8 lost 9;leader at 14 fear 70;ram at 3;wolf 9 pace 1",
        "sheep at 15;sheep;ewe at 8;fold 15;wolf 7 pace 3;keeper 2",
        "ram;wolf 9",
        "lamb at 6;wolf 0",
        "ram;wolf 10",
        "lamb at 8;wolf 1"
    };
    private static final int[] HOURS = {0, 1, 2, 7, 20, 39, 40};

    public static void main(String[] args) {
        standFor();
        standForOfSeveral();
        standForWhileCarrying();
        foldFor();
        foldForOfSeveral();
        kindFor();
        kindForOfSeveral();
        paceFor();
        paceForNone();
        bestOfAll();
        tether();
        tetherNone();
        tetherOfSeveral();
        tetherFewest();
        nothingChanges();
        check.end();
    }

    private static void standFor() {
        check.says("The CELL AT which THE KEEPER must be now, so that FEAR of all together is least "
                + "behind n (0 to 40) HOURS.");
        StraySheep x = Hills.quiet();
        x.set(2, 10);
        x.set(3, 0);
        x.sheep(0, 10);
        check.due("beside the wolf", x.standFor(1), 9);
        x.set(2, 0);
        x.change(0, 1, 2);
        check.due("beside one in the first cell", x.standFor(1), 0);
        x.set(2, 15);
        x.change(0, 1, 15);
        check.due("beside one in the last cell", x.standFor(1), 14);
        check.due("in the last cell", hill(4).standFor(7), 15);
    }

    private static void standForOfSeveral() {
        check.says("standFor: of several that would do the least number counts, where nothing else is told.");
        check.due("without sheep", new StraySheep().standFor(40), 0);
        StraySheep x = Hills.quiet();
        x.set(2, 10);
        x.sheep(0, 10);
        x.set(1, 13);
        check.due("behind 0 hours all are as good", x.standFor(0), 0);
    }

    private static void standForWhileCarrying() {
        check.says("standFor: STATE: it CARRIES one.");
        StraySheep x = Hills.carrying(0, 5);
        check.due("while it carries one", x.standFor(0), Check.STATE);
        x.drop();
        check.due("no longer", x.standFor(0), 0);
    }

    private static void foldFor() {
        check.says("The CELL AT which THE FOLD must be, so that LOST of all together is least "
                + "behind n (0 to 40) HOURS.");
        StraySheep x = Hills.quiet();
        x.sheep(0, 15);
        x.sheep(0, 3);
        x.sheep(0, 15);
        check.due("where most are", x.foldFor(1), 15);
        x.change(1, 3, 500);
        check.due("where the one longest lost is", x.foldFor(1), 3);
        StraySheep y = Hills.carrying(0, 9);
        y.change(0, 3, 700);
        check.due("within reach of one that is carried", y.foldFor(1), 7);
        StraySheep z = Hills.quiet();
        for (int s = 0; s < 8; s++) {
            z.sheep(0, s < 2 ? 12 : s);
            z.change(s, 3, 9999);
        }
        check.due("of eight as long lost as can be", z.foldFor(1), 12);
    }

    private static void foldForOfSeveral() {
        check.says("foldFor: of several that would do the least number counts, where nothing else is told.");
        check.due("without sheep", new StraySheep().foldFor(40), 0);
        StraySheep x = Hills.quiet();
        x.set(0, 9);
        x.sheep(0, 12);
        x.sheep(0, 9);
        check.due("behind 0 hours all are as good", x.foldFor(0), 0);
        check.due("of two as good", x.foldFor(1), 9);
    }

    /** From HOUR 1 one at 2 goes on at hour 3, if it does, and is brought home by hour 10. */
    private static void kindFor() {
        check.says("The KIND of which a SHEEP must be, so that FOUND of it is most behind n (0 to 40) HOURS.");
        StraySheep x = Hills.quiet();
        x.sheep(0, 2);
        check.due("an orphan is home first", x.kindFor(0, 5), 4);
        check.due("others an hour later", x.kindFor(0, 6), 0);
        x.change(0, 0, 4);
        check.due("whatever it is now", x.kindFor(0, 6), 0);
        check.due("a leader", hill(5).kindFor(0, 7), 6);
    }

    private static void kindForOfSeveral() {
        check.says("kindFor: of several that would do the least number counts, where nothing else is told.");
        StraySheep x = Hills.quiet();
        x.sheep(5, 2);
        x.change(0, 4, 7);
        check.due("behind 0 hours all are as good", x.kindFor(0, 0), 0);
        check.due("none is home behind 4", x.kindFor(0, 4), 0);
    }

    private static void paceFor() {
        check.says("The greatest PACE (0 to 5) with which FEAR of all together is no more than v (0 to 999) "
                + "behind n (0 to 40) HOURS.");
        StraySheep x = Hills.quiet();
        x.sheep(0, 10);
        x.set(2, 15);
        check.due("no fear", x.paceFor(0, 1), 2);
        check.due("fear 8", x.paceFor(8, 1), 2);
        check.due("fear 9", x.paceFor(9, 1), 5);
        x.change(0, 2, 50);
        check.due("fear 49", x.paceFor(49, 1), 2);
        check.due("fear 50 now", x.paceFor(50, 0), 5);
        check.due("999 is always enough", x.paceFor(999, 40), 5);
        StraySheep y = Hills.quiet();
        y.sheep(0, 8);
        y.set(2, 11);
        check.due("a wolf that must not move", y.paceFor(0, 1), 0);
        check.due("without sheep", new StraySheep().paceFor(0, 40), 5);
    }

    private static void paceForNone() {
        check.says("paceFor: NONE.");
        StraySheep x = Hills.quiet();
        x.sheep(0, 10);
        x.set(2, 15);
        x.change(0, 2, 50);
        check.due("too much now", x.paceFor(49, 0), Check.NONE);
        check.due("too much behind an hour", x.paceFor(48, 1), Check.NONE);
    }

    private static StraySheep hill(int which) {
        StraySheep x = new StraySheep();
        Hills.read(x, HILLS[which]);
        return x;
    }

    /** What now() tells behind n hours, which themselves go by. */
    private static int behind(StraySheep x, int n, int what) {
        if (n > 0) {
            x.go(n);
        }
        return x.now(what);
    }

    /** Each answer against hills on which it is so from the begin and the hours go by. */
    private static void bestOfAll() {
        for (int which = 0; which < HILLS.length; which++) {
            for (int n : HOURS) {
                check.says("standFor, foldFor, kindFor, paceFor behind " + n + " HOURS: of all that could be the best");
                bestCells(which, n);
                bestKinds(which, n);
                greatestPaces(which, n);
            }
        }
    }

    private static void bestCells(int which, int n) {
        int stand = 0;
        int fold = 0;
        for (int cell = 1; cell < 16; cell++) {
            stand = behindWith(which, 1, cell, n, 2) < behindWith(which, 1, stand, n, 2) ? cell : stand;
            fold = behindWith(which, 0, cell, n, 4) < behindWith(which, 0, fold, n, 4) ? cell : fold;
        }
        check.due("where to stand on " + HILLS[which], hill(which).standFor(n), stand);
        check.due("where the fold be on " + HILLS[which], hill(which).foldFor(n), fold);
    }

    private static int behindWith(int which, int what, int v, int n, int asked) {
        StraySheep x = hill(which);
        x.set(what, v);
        return behind(x, n, asked);
    }

    private static void bestKinds(int which, int n) {
        for (int s = 0; s < hill(which).count(1); s++) {
            int best = 0;
            int most = -1;
            for (int kind = 0; kind < 7; kind++) {
                StraySheep x = hill(which);
                x.change(s, 0, kind);
                behind(x, n, 0);
                best = x.of(s, 4) > most ? kind : best;
                most = Math.max(most, x.of(s, 4));
            }
            check.due("sheep " + s + " as what on " + HILLS[which], hill(which).kindFor(s, n), best);
        }
    }

    private static void greatestPaces(int which, int n) {
        int[] fears = {0, 20, 50, 100, 200, 400, 999};
        for (int v : fears) {
            int greatest = Check.NONE;
            for (int pace = 0; pace <= 5; pace++) {
                greatest = behindWith(which, 3, pace, n, 2) <= v ? pace : greatest;
            }
            check.due("how fast a wolf, fear " + v + ", on " + HILLS[which], hill(which).paceFor(v, n), greatest);
        }
    }

    private static void tether() {
        check.says("The set of fewest SHEEP such that, if these don't go by themselves from now on (1), "
                + "none is 3 CELLS FAR or more behind n (0 to 20) HOURS");
        check.due("without sheep", new StraySheep().tether(20), 0);
        StraySheep x = new StraySheep();
        x.sheep(5, 1);
        x.sheep(0, 2);
        x.sheep(0, 0);
        check.due("none is far now", x.tether(0), 0);
        check.due("the two that would go to 3", x.tether(1), 3);
        StraySheep y = Hills.quiet();
        y.set(1, 4);
        y.sheep(0, 4);
        check.due("one brought near meanwhile", y.tether(2), 0);
        check.due("one found meanwhile", y.tether(3), 0);
        StraySheep z = new StraySheep();
        for (int i = 0; i < 8; i++) {
            z.sheep(5, 0);
        }
        check.due("all of eight", z.tether(2), 255);
        check.due("all but the last", eightWithOneOrphan().tether(2), 127);
    }

    private static StraySheep eightWithOneOrphan() {
        StraySheep x = Hills.quiet();
        for (int i = 0; i < 7; i++) {
            x.sheep(5, 0);
        }
        x.sheep(4, 0);
        return x;
    }

    private static void tetherNone() {
        check.says("tether: NONE.");
        StraySheep x = Hills.quiet();
        x.sheep(0, 3);
        x.sheep(0, 2);
        check.due("3 cells far now", x.tether(0), Check.NONE);
        check.due("and behind an hour", x.tether(1), Check.NONE);
        x.change(0, 1, 2);
        check.due("2 cells far", x.tether(0), 0);
    }

    /** The keeper brings back one of two wanderers: either of them may be tethered. */
    private static void tetherOfSeveral() {
        check.says("tether: of several the least.");
        StraySheep x = Hills.quiet();
        x.set(1, 2);
        x.sheep(5, 2);
        x.sheep(5, 2);
        check.due("of two sets of one", x.tether(3), 1);
    }

    private static void tetherFewest() {
        check.says("The set of fewest SHEEP");
        StraySheep x = Hills.quiet();
        x.sheep(5, 0);
        x.sheep(0, 0);
        x.sheep(5, 0);
        check.due("not one that stays by itself", x.tether(2), 5);
        // Either the ram and the first orphan stay, and the last one keeps its company; or the last
        // one alone: then the ram comes to the first orphan, which stays with it.
        StraySheep y = new StraySheep();
        y.sheep(1, 1);
        y.sheep(4, 2);
        y.sheep(4, 1);
        check.due("4 is one sheep, 3 are two", y.tether(1), 4);
    }

    private static void nothingChanges() {
        check.says("where to stand: nothing is told to change");
        StraySheep x = hill(0);
        StraySheep y = hill(0);
        x.standFor(7);
        x.foldFor(7);
        x.kindFor(0, 7);
        x.paceFor(400, 7);
        x.tether(20);
        check.alike(x, y, 5);
    }
}
