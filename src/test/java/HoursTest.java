/** The document's term 2 and promises 9 and 10: what an hour does, worked out by hand. */
public final class HoursTest {
    private static final Check check = new Check();

    public static void main(String[] args) {
        byNumbers();
        carriedStaysBehind();
        away();
        endOfRow();
        towardsFold();
        wolfAway();
        wolfNearKeeper();
        wolfGoes();
        wolfBetweenSeveral();
        wolfAndCarried();
        frightNear();
        frightOfKinds();
        mostFright();
        carryingHome();
        puttingDown();
        seeking();
        soughtOfSeveral();
        takingUp();
        noneSought();
        lost();
        calming();
        hourByHour();
        go();
        now();
        nowOfNone();
        nowOfSeveral();
        nowOfEight();
        check.end();
    }

    private static void byNumbers() {
        check.says("(1) SHEEP by numbers");
        StraySheep x = new StraySheep();
        x.set(0, 3);
        x.sheep(4, 5);
        x.sheep(0, 5);
        x.go(1);
        check.due("an orphan whose company goes behind it", x.of(0, 1), 5);
        check.due("its company", x.of(1, 1), 6);
        StraySheep y = new StraySheep();
        y.set(0, 3);
        y.sheep(0, 5);
        y.sheep(4, 5);
        y.go(1);
        check.due("company that goes first", y.of(0, 1), 6);
        check.due("an orphan whose company has gone", y.of(1, 1), 7);
    }

    private static void carriedStaysBehind() {
        check.says("but for that which THE KEEPER CARRIES");
        StraySheep x = Hills.carrying(5, 15);
        x.go(2);
        x.set(1, 8);
        x.sheep(4, 8);
        check.due("hour 3, an orphan beside the carried wanderer", x.of(1, 6), 0);
        x.go(1);
        check.due("it kept its company", x.of(1, 1), 8);
        check.due("the wanderer went with the keeper alone", x.of(0, 1), 7);
    }

    /** Where one is behind an hour; the keeper begins AT the fold. */
    private static int cellBehind(int hour, int fold, int kind, int cell, int fear) {
        StraySheep x = new StraySheep();
        if (hour > 0) {
            x.go(hour);
        }
        x.set(0, fold);
        x.set(1, fold);
        x.sheep(kind, cell);
        x.change(0, 2, fear);
        x.go(1);
        return x.of(0, 1);
    }

    private static void away() {
        check.says("one goes as many CELLS as it STRAYS away from THE FOLD (one that is AT it: to greater CELLS, "
                + "but to lesser ones, if THE FOLD is AT 15)");
        check.due("above the fold", cellBehind(0, 5, 0, 6, 0), 7);
        check.due("below the fold", cellBehind(0, 5, 0, 4, 0), 3);
        check.due("2 cells above", cellBehind(1, 5, 5, 6, 0), 8);
        check.due("2 cells below", cellBehind(1, 5, 5, 4, 0), 2);
        check.due("not at another hour", cellBehind(1, 5, 0, 6, 0), 6);
        check.due("at hour 3", cellBehind(3, 5, 0, 6, 0), 7);
        check.due("AT the fold in the first cell", cellBehind(0, 0, 0, 0, 0), 1);
        check.due("AT the fold", cellBehind(0, 7, 0, 7, 0), 8);
        check.due("AT the fold in the last cell but one", cellBehind(0, 14, 0, 14, 0), 15);
        check.due("AT the fold in the last cell", cellBehind(0, 15, 0, 15, 0), 14);
        check.due("AT the fold in the last cell, 2 cells", cellBehind(0, 15, 5, 15, 0), 13);
        check.due("below a fold in the last cell", cellBehind(0, 15, 0, 14, 0), 13);
    }

    private static void endOfRow() {
        check.says("no farther than to the end of the row");
        check.due("to the last cell", cellBehind(1, 5, 5, 13, 0), 15);
        check.due("only to the last cell", cellBehind(1, 5, 5, 14, 0), 15);
        check.due("in the last cell", cellBehind(1, 5, 5, 15, 0), 15);
        check.due("from a fold in the last cell but one", cellBehind(1, 14, 5, 14, 0), 15);
        check.due("to the first cell", cellBehind(1, 5, 5, 2, 0), 0);
        check.due("only to the first cell", cellBehind(1, 5, 5, 1, 0), 0);
        check.due("in the first cell", cellBehind(1, 5, 5, 0, 0), 0);
    }

    private static void towardsFold() {
        check.says("towards it no farther than to it.");
        check.due("from above", cellBehind(0, 5, 2, 8, 30), 7);
        check.due("from below", cellBehind(0, 5, 2, 2, 30), 3);
        check.due("2 cells from above, just to it", cellBehind(0, 5, 3, 7, 30), 5);
        check.due("2 cells from below, just to it", cellBehind(0, 5, 3, 3, 30), 5);
        check.due("1 of 2 cells from above", cellBehind(0, 5, 3, 6, 30), 5);
        check.due("1 of 2 cells from below", cellBehind(0, 5, 3, 4, 30), 5);
        check.due("AT it", cellBehind(0, 5, 3, 5, 30), 5);
        check.due("AT it in the first cell", cellBehind(0, 0, 3, 0, 30), 0);
        check.due("AT it in the last cell", cellBehind(0, 15, 3, 15, 30), 15);
        check.due("a leader that isn't afraid", cellBehind(1, 5, 6, 7, 0), 6);
        check.due("a leader AT it", cellBehind(1, 5, 6, 5, 0), 5);
    }

    private static void wolfAway() {
        check.says("(2) THE WOLF, if it isn't away");
        StraySheep x = Hills.quiet();
        x.sheep(0, 0);
        x.sheep(0, 1);
        x.set(1, 9);
        x.set(3, 5);
        x.go(1);
        check.due("it stays away", x.hill(2), -1);
        check.due("and frightens none", x.now(2), 0);
    }

    private static void wolfNearKeeper() {
        check.says("and more than 1 CELL from THE KEEPER");
        for (int keeper = 0; keeper < 16; keeper++) {
            StraySheep x = Hills.quiet();
            x.sheep(0, 12);
            x.set(1, keeper);
            x.set(2, 10);
            x.go(1);
            boolean isNear = keeper >= 9 && keeper <= 11;
            check.due("the wolf, with a keeper at " + keeper, x.hill(2), isNear ? 10 : 11);
            check.due("fear, with a keeper at " + keeper, x.of(0, 2), isNear ? 0 : 9);
        }
    }

    /** Where a wolf AT 10 is behind an hour, with one sheep that stays where it is. */
    private static int wolfBehind(int pace, int sheep) {
        StraySheep x = Hills.quiet();
        x.sheep(0, sheep);
        x.set(2, 10);
        x.set(3, pace);
        x.go(1);
        return x.hill(2);
    }

    private static void wolfGoes() {
        check.says("it goes as many CELLS as its PACE towards the SHEEP that is nearest to it, no farther than to it");
        check.due("pace 0", wolfBehind(0, 15), 10);
        check.due("pace 1, up", wolfBehind(1, 15), 11);
        check.due("pace 1, down", wolfBehind(1, 3), 9);
        check.due("pace 4", wolfBehind(4, 15), 14);
        check.due("pace 5, just to it", wolfBehind(5, 15), 15);
        check.due("pace 5, just to it, down", wolfBehind(5, 5), 5);
        check.due("pace 5, not quite to it", wolfBehind(5, 4), 5);
        check.due("pace 5, no farther up", wolfBehind(5, 12), 12);
        check.due("pace 5, no farther down", wolfBehind(5, 8), 8);
        check.due("AT it", wolfBehind(5, 10), 10);
        StraySheep row = Hills.quiet();
        row.sheep(0, 0);
        row.set(1, 9);
        row.set(2, 15);
        row.go(1);
        check.due("from the last cell to one in the first", row.hill(2), 14);
        StraySheep x = Hills.quiet();
        x.set(2, 10);
        x.set(3, 5);
        x.go(1);
        check.due("there are none", x.hill(2), 10);
        StraySheep y = new StraySheep();
        y.sheep(0, 12);
        y.sheep(0, 8);
        y.set(2, 10);
        y.go(1);
        check.due("the nearest when they have gone to 13 and 9", y.hill(2), 9);
    }

    private static int wolfBetween(int... cells) {
        StraySheep x = Hills.quiet();
        for (int cell : cells) {
            x.sheep(0, cell);
        }
        x.set(2, 10);
        x.go(1);
        return x.hill(2);
    }

    private static void wolfBetweenSeveral() {
        check.says("of several the least number");
        check.due("the first is above", wolfBetween(12, 8), 11);
        check.due("the first is below", wolfBetween(8, 12), 9);
        check.due("the first of the two nearest", wolfBetween(15, 12, 8), 11);
        check.due("a nearer one behind", wolfBetween(12, 9), 9);
        check.due("a nearer one ahead", wolfBetween(11, 8), 11);
    }

    private static void wolfAndCarried() {
        check.says("not that which is CARRIED");
        StraySheep x = Hills.carrying(4, 9);
        x.set(2, 11);
        x.sheep(0, 15);
        x.go(1);
        check.due("past the carried one", x.hill(2), 12);
        StraySheep y = Hills.carrying(4, 9);
        y.set(2, 12);
        y.go(1);
        check.due("there is no other", y.hill(2), 12);
        check.says("but for that which is CARRIED, is more by what each FEARS");
        StraySheep z = Hills.carrying(4, 9);
        z.sheep(0, 9);
        z.set(2, 11);
        z.set(3, 0);
        z.go(1);
        check.due("the carried one", z.of(0, 2), 0);
        check.due("one that stood beside it", z.of(1, 2), 9);
        StraySheep w = Hills.quiet();
        w.sheep(0, 9);
        w.set(1, 9);
        w.set(2, 11);
        w.set(3, 0);
        w.go(1);
        check.due("one taken up in this hour", w.hill(4), 0);
        check.due("was frightened first", w.of(0, 2), 9);
    }

    private static void frightNear() {
        check.says("then FEAR of all SHEEP no more than 2 CELLS from it");
        StraySheep x = Hills.quiet();
        for (int cell = 5; cell <= 11; cell++) {
            x.sheep(0, cell);
        }
        x.set(2, 8);
        x.go(1);
        int[] fear = {0, 9, 9, 9, 9, 9, 0};
        for (int s = 0; s < 7; s++) {
            check.due("fear in cell " + (5 + s), x.of(s, 2), fear[s]);
        }
        StraySheep y = Hills.quiet();
        y.sheep(0, 12);
        y.sheep(0, 8);
        y.sheep(0, 13);
        y.set(2, 10);
        y.go(1);
        check.due("where it has gone to", y.hill(2), 11);
        check.due("1 cell off then", y.of(0, 2), 9);
        check.due("3 cells off then", y.of(1, 2), 0);
        check.due("2 cells off then", y.of(2, 2), 9);
    }

    /** Fear, behind an hour, of one that is AT the fold and beside the wolf. */
    private static int frightened(int kind, int fear) {
        StraySheep x = Hills.quiet();
        x.set(0, 12);
        x.set(1, 2);
        x.set(2, 12);
        x.set(3, 0);
        x.sheep(kind, 12);
        x.change(0, 2, fear);
        x.go(1);
        return x.of(0, 2);
    }

    private static void frightOfKinds() {
        check.says("is more by what each FEARS");
        int[] behind = {9, 3, 19, 24, 25, 0, 0};
        for (int kind = 0; kind < 7; kind++) {
            check.due("fear of kind " + kind, frightened(kind, 0), behind[kind]);
        }
    }

    private static void mostFright() {
        check.says("(99 at most)");
        check.due("to 98", frightened(4, 73), 98);
        check.due("to 99", frightened(4, 74), 99);
        check.due("not to 100", frightened(4, 75), 99);
        check.due("from 99", frightened(4, 99), 99);
        check.due("then it calms", frightened(0, 95), 98);
        check.due("then it calms", frightened(3, 99), 98);
    }

    /** A hill on which the keeper carries one of a kind home from a cell, behind an hour. */
    private static StraySheep carriedFrom(int fold, int kind, int cell) {
        StraySheep x = Hills.carrying(kind, cell);
        x.set(0, fold);
        x.change(0, 2, 50);
        x.go(1);
        return x;
    }

    private static void carryingHome() {
        check.says("(3) THE KEEPER: if it CARRIES one, it goes as many CELLS as that is LIGHT towards THE FOLD, "
                + "no farther (that SHEEP with it)");
        int[] light = {2, 1, 2, 3, 4, 1, 1};
        for (int kind = 0; kind < 7; kind++) {
            StraySheep down = carriedFrom(5, kind, 10);
            check.due("down with kind " + kind, down.hill(1), 10 - light[kind]);
            check.due("that one with him", down.of(0, 1), 10 - light[kind]);
            check.due("still carried", down.hill(4), 0);
            StraySheep up = carriedFrom(15, kind, 8);
            check.due("up with kind " + kind, up.hill(1), 8 + light[kind]);
            check.due("that one with him", up.of(0, 1), 8 + light[kind]);
            check.due("no farther", carriedFrom(5, kind, 6).hill(1), 5);
            check.due("no farther up", carriedFrom(15, kind, 14).hill(1), 15);
        }
        StraySheep x = Hills.carrying(0, 6);
        x.sheep(0, 15);
        x.go(1);
        check.due("he seeks no other meanwhile", x.hill(1), 4);
    }

    private static void puttingDown() {
        check.says("if it is AT THE FOLD then, it puts that down: FOUND of it is 1 more (9999 at most), FEAR 0, "
                + "it CARRIES none.");
        for (int cell = 3; cell <= 7; cell++) {
            StraySheep x = carriedFrom(5, 0, cell);
            check.due("put down, from " + cell, x.hill(4), -1);
            check.due("AT the fold, from " + cell, x.of(0, 1), 5);
            check.due("found, from " + cell, x.of(0, 4), 1);
            check.due("fear, from " + cell, x.of(0, 2), 0);
        }
        StraySheep far = carriedFrom(5, 0, 8);
        check.due("1 cell from the fold", far.of(0, 1), 6);
        check.due("not yet put down", far.hill(4), 0);
        check.due("not yet found", far.of(0, 4), 0);
        check.due("not yet calm", far.of(0, 2), 49);
        StraySheep orphan = carriedFrom(5, 4, 9);
        check.due("an orphan, from just as far as it is light", orphan.of(0, 4), 1);
        check.due("fear of one that never calms", orphan.of(0, 2), 0);
        int[] found = {0, 1, 9998, 9999};
        for (int before : found) {
            StraySheep x = Hills.carrying(0, 1);
            x.change(0, 4, before);
            check.due("found " + before + " times before", x.go(1), before < 9999 ? before + 1 : 9999);
        }
    }

    /** Where the keeper is behind an hour in which sheep stay; the fold AT 8. */
    private static int keeperBehind(int keeper, int... cells) {
        StraySheep x = Hills.quiet();
        x.set(0, 8);
        x.set(1, keeper);
        for (int cell : cells) {
            x.sheep(0, cell);
        }
        x.go(1);
        return x.hill(1);
    }

    private static void seeking() {
        check.says("Else it goes 2 CELLS towards the SHEEP that is SOUGHT, no farther than to it");
        check.due("up", keeperBehind(8, 15), 10);
        check.due("down", keeperBehind(8, 0), 6);
        check.due("just to it", keeperBehind(10, 12), 12);
        check.due("1 of 2 cells", keeperBehind(11, 12), 12);
        check.due("AT it", keeperBehind(12, 12), 12);
        check.due("from above, 1 of 2 cells", keeperBehind(13, 12), 12);
        check.due("across the fold", keeperBehind(3, 12), 5);
    }

    private static void soughtOfSeveral() {
        check.says("(that which is most FAR, of several the least number, if that is 3 CELLS or more)");
        check.due("the most far, below", keeperBehind(8, 12, 3), 6);
        check.due("the most far, above", keeperBehind(8, 13, 4), 10);
        check.due("of two as far that below", keeperBehind(8, 4, 12), 6);
        check.due("of two as far that above", keeperBehind(8, 12, 4), 10);
        check.due("of three", keeperBehind(8, 9, 12, 4), 10);
        check.due("3 cells above", keeperBehind(8, 11), 10);
        check.due("3 cells below", keeperBehind(8, 5), 6);
        check.due("2 cells above", keeperBehind(8, 10), 8);
        check.due("2 cells below", keeperBehind(8, 6), 8);
        StraySheep x = new StraySheep();
        x.sheep(0, 2);
        x.go(1);
        check.due("one that has gone to 3 in this hour", x.hill(1), 2);
    }

    /** Which is carried behind an hour in which sheep stay; the fold AT 0. */
    private static int takenUp(int keeper, int... cells) {
        StraySheep x = Hills.quiet();
        x.set(1, keeper);
        for (int cell : cells) {
            x.sheep(0, cell);
        }
        x.go(1);
        return x.hill(4);
    }

    private static void takingUp() {
        check.says("and takes it up, if it is AT its CELL then (it CARRIES that)");
        check.due("AT it before", takenUp(9, 9), 0);
        check.due("1 cell off", takenUp(8, 9), 0);
        check.due("2 cells off", takenUp(7, 9), 0);
        check.due("2 cells off, from above", takenUp(11, 9), 0);
        check.due("3 cells off", takenUp(6, 9), -1);
        check.due("3 cells off, from above", takenUp(12, 9), -1);
        check.due("that which is sought, not one on the way", takenUp(9, 9, 11), 1);
        check.due("not one on the way, if that is too far", takenUp(9, 9, 12), -1);
        check.due("of two in one cell the least number", takenUp(9, 9, 9), 0);
        check.due("none that isn't sought", takenUp(2, 2), -1);
        StraySheep x = Hills.quiet();
        x.set(1, 7);
        x.sheep(0, 9);
        x.go(1);
        check.due("it is where he is", x.of(0, 1), 9);
        check.due("not found by that", x.of(0, 4), 0);
    }

    private static void noneSought() {
        check.says("if none is SOUGHT, 2 CELLS towards THE FOLD, no farther.");
        int[] behind = {2, 3, 4, 5, 6, 7, 8, 8, 8, 8, 8, 9, 10, 11, 12, 13};
        for (int keeper = 0; keeper < 16; keeper++) {
            check.due("from " + keeper, keeperBehind(keeper), behind[keeper]);
            check.due("from " + keeper + ", one at 10", keeperBehind(keeper, 10), behind[keeper]);
        }
    }

    private static int lostBehind(int cell, int lost) {
        StraySheep x = Hills.quiet();
        x.set(0, 7);
        x.sheep(0, cell);
        x.change(0, 3, lost);
        x.go(1);
        return x.of(0, 3);
    }

    private static void lost() {
        check.says("(4) SHEEP by numbers: LOST is 1 more (9999 at most), 0 for one AT THE FOLD");
        check.due("from 0", lostBehind(8, 0), 1);
        check.due("below the fold", lostBehind(6, 41), 42);
        check.due("to 9999", lostBehind(8, 9998), 9999);
        check.due("no more than 9999", lostBehind(8, 9999), 9999);
        check.due("AT the fold", lostBehind(7, 9999), 0);
        check.due("AT the fold, never lost", lostBehind(7, 0), 0);
        StraySheep x = Hills.carrying(0, 9);
        x.go(1);
        check.due("the carried one", x.of(0, 3), 2);
        x.set(1, 1);
        x.go(1);
        check.due("one put down AT the fold", x.of(0, 3), 0);
        StraySheep y = Hills.quiet();
        y.sheep(2, 1);
        y.change(0, 2, 50);
        y.change(0, 3, 60);
        y.go(1);
        check.due("one that came to the fold in this hour", y.of(0, 3), 0);
        StraySheep z = new StraySheep();
        z.sheep(0, 0);
        z.go(1);
        check.due("one that left the fold in this hour", z.of(0, 3), 1);
    }

    private static void calming() {
        check.says("FEAR is less by what it CALMS (0 at least).");
        int[] calms = {1, 2, 1, 1, 0, 1, 4};
        for (int kind = 0; kind < 7; kind++) {
            for (int fear = 0; fear <= 5; fear++) {
                StraySheep x = Hills.quiet();
                x.sheep(kind, 1);
                x.change(0, 2, fear);
                x.go(1);
                check.due("kind " + kind + ", fear " + fear, x.of(0, 2), Math.max(0, fear - calms[kind]));
            }
        }
        StraySheep x = Hills.carrying(1, 9);
        x.change(0, 2, 50);
        x.go(1);
        check.due("the carried one", x.of(0, 2), 48);
    }

    /** One plain sheep that goes at hours 0, 3 and 6, is sought, taken up and brought home. */
    private static void hourByHour() {
        check.says("AN HOUR goes by: (1) .. (2) .. (3) .. (4) .. HOUR is one more");
        StraySheep x = new StraySheep();
        x.sheep(0, 0);
        int[] cell = {1, 1, 1, 2, 2, 2, 3, 3, 1, 0};
        int[] keeper = {0, 0, 0, 0, 0, 0, 2, 3, 1, 0};
        int[] carried = {-1, -1, -1, -1, -1, -1, -1, 0, 0, -1};
        int[] lost = {1, 2, 3, 4, 5, 6, 7, 8, 9, 0};
        for (int h = 0; h < 10; h++) {
            check.due("go(1)", x.go(1), h == 9 ? 1 : 0);
            check.due("hours", x.now(0), h + 1);
            check.due("cell behind " + (h + 1), x.of(0, 1), cell[h]);
            check.due("keeper behind " + (h + 1), x.hill(1), keeper[h]);
            check.due("carried behind " + (h + 1), x.hill(4), carried[h]);
            check.due("lost behind " + (h + 1), x.of(0, 3), lost[h]);
        }
    }

    private static void go() {
        check.says("n HOURS (1 to 60): FOUND of all together then.");
        StraySheep x = new StraySheep();
        check.due("there are none", x.go(60), 0);
        check.due("they went by", x.now(0), 60);
        StraySheep y = new StraySheep();
        for (int i = 0; i < 8; i++) {
            y.sheep(0, 1);
            y.change(i, 4, 1 << i);
        }
        check.due("of all eight", y.go(1), 255);
        // It is found behind 10 hours, then every 12: its hours stand in AheadTest.
        int[] n = {9, 10, 21, 22, 57, 58, 60};
        int[] found = {0, 1, 1, 2, 4, 5, 5};
        for (int i = 0; i < n.length; i++) {
            StraySheep z = new StraySheep();
            z.sheep(0, 0);
            check.due("go(" + n[i] + ")", z.go(n[i]), found[i]);
        }
    }

    private static void now() {
        check.says("What 0 HOUR, 1 SHEEP 3 CELLS FAR or more, as a set, 2 FEAR of all together, "
                + "3 FOUND of all together, 4 LOST of all together, 5 the SHEEP that would be SOUGHT now (-1: none), "
                + "6 SHEEP AT THE FOLD, as a set, 7 the SHEEP that is most afraid (-1: there are none).");
        StraySheep x = new StraySheep();
        x.go(5);
        int[] cells = {5, 8, 2, 5, 9, 1, 7, 3};
        int[] fears = {3, 7, 0, 8, 1, 0, 2, 5};
        for (int i = 0; i < cells.length; i++) {
            x.sheep(0, cells[i]);
            x.change(i, 2, fears[i]);
            x.change(i, 3, 10 + i);
            x.change(i, 4, 100 + i);
        }
        x.set(0, 5);
        int[] now = {5, 2 + 4 + 16 + 32, 26, 828, 108, 4, 1 + 8, 3};
        for (int what = 0; what < 8; what++) {
            check.due("now(" + what + ")", x.now(what), now[what]);
        }
    }

    private static void nowOfNone() {
        check.says("5 the SHEEP that would be SOUGHT now (-1: none)");
        StraySheep x = new StraySheep();
        check.due("there are none", x.now(5), -1);
        x.set(0, 5);
        x.sheep(0, 7);
        x.sheep(0, 3);
        check.due("2 cells far", x.now(5), -1);
        check.says("7 the SHEEP that is most afraid (-1: there are none)");
        check.due("there are none", new StraySheep().now(7), -1);
        check.due("one without fear", x.now(7), 0);
        check.says("1 SHEEP 3 CELLS FAR or more, as a set");
        check.due("there are none", new StraySheep().now(1), 0);
        check.due("2 cells far", x.now(1), 0);
        x.change(1, 1, 2);
        check.due("3 cells far, below", x.now(1), 2);
        x.change(0, 1, 8);
        check.due("3 cells far, above", x.now(1), 3);
        check.says("6 SHEEP AT THE FOLD, as a set");
        check.due("there are none", new StraySheep().now(6), 0);
        check.due("none is AT it", x.now(6), 0);
    }

    private static void nowOfSeveral() {
        check.says("of several that would do the least number counts, where nothing else is told.");
        StraySheep x = new StraySheep();
        int[] cells = {2, 5, 9, 1};
        for (int cell : cells) {
            x.sheep(0, cell);
        }
        x.set(0, 5);
        check.due("of two 4 cells far", x.now(5), 2);
        x.change(0, 1, 1);
        check.due("of three 4 cells far", x.now(5), 0);
        check.due("of four without fear", x.now(7), 0);
        x.change(3, 2, 6);
        check.due("one afraid", x.now(7), 3);
        x.change(1, 2, 6);
        check.due("of two as afraid", x.now(7), 1);
        x.change(2, 2, 7);
        check.due("one more afraid", x.now(7), 2);
    }

    private static void nowOfEight() {
        check.says("2 FEAR of all together, 3 FOUND of all together, 4 LOST of all together");
        StraySheep x = new StraySheep();
        for (int i = 0; i < 8; i++) {
            x.sheep(0, 15);
            x.change(i, 2, 99);
            x.change(i, 3, 9999);
            x.change(i, 4, 9999);
        }
        int[] all = {0, 255, 8 * 99, 8 * 9999, 8 * 9999, 0, 0, 0};
        for (int what = 0; what < 8; what++) {
            check.due("now(" + what + ") of eight", x.now(what), all[what]);
        }
        x.set(0, 15);
        check.due("all eight AT the fold", x.now(6), 255);
        check.due("none far", x.now(1), 0);
    }
}
