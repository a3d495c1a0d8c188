/** Promises 9 and 10, and what an hour does (the document's term 2), each answer worked out by hand. */
public final class HoursTest {
    private static final Check check = new Check();

    public static void main(String[] args) {
        oneSheepForTenHours();
        ways();
        orphansByNumbers();
        wolf();
        wolfAndKeeper();
        fright();
        keeper();
        carrying();
        limits();
        go();
        now();
        nowOfNone();
        nowOfEight();
        lastHour();
        check.end();
    }

    /** An hour that is no multiple of 3, at which plain sheep stay where they are. */
    private static StraySheep quietHill() {
        StraySheep x = new StraySheep();
        x.go(1);
        return x;
    }

    private static void oneSheepForTenHours() {
        StraySheep x = new StraySheep();
        x.sheep(0, 0);
        int[] cell = {1, 1, 1, 2, 2, 2, 3, 3, 1, 0};
        int[] keeper = {0, 0, 0, 0, 0, 0, 2, 3, 1, 0};
        int[] carried = {-1, -1, -1, -1, -1, -1, -1, 0, 0, -1};
        int[] lost = {1, 2, 3, 4, 5, 6, 7, 8, 9, 0};
        for (int h = 0; h < 10; h++) {
            check.due("9: go", x.go(1), h == 9 ? 1 : 0);
            check.due("9: cell behind hour " + h, x.of(0, 1), cell[h]);
            check.due("9: keeper behind hour " + h, x.hill(1), keeper[h]);
            check.due("9: carried behind hour " + h, x.hill(4), carried[h]);
            check.due("9: lost behind hour " + h, x.of(0, 3), lost[h]);
        }
        check.due("9: found", x.of(0, 4), 1);
    }

    private static int cellBehind(int fold, int kind, int cell, int fear) {
        StraySheep x = new StraySheep();
        x.set(0, fold);
        x.set(1, fold);
        x.sheep(kind, cell);
        x.change(0, 2, fear);
        x.go(1);
        return x.of(0, 1);
    }

    private static void ways() {
        check.due("9: from the fold to greater cells", cellBehind(0, 0, 0, 0), 1);
        check.due("9: from the fold to greater cells", cellBehind(14, 0, 14, 0), 15);
        check.due("9: from the last cell to lesser ones", cellBehind(15, 0, 15, 0), 14);
        check.due("9: above the fold", cellBehind(5, 0, 6, 0), 7);
        check.due("9: below the fold", cellBehind(5, 0, 4, 0), 3);
        check.due("9: the row's begin", cellBehind(5, 5, 1, 0), 0);
        check.due("9: the row's end", cellBehind(5, 5, 14, 0), 15);
        check.due("9: towards the fold", cellBehind(5, 2, 8, 30), 7);
        check.due("9: towards the fold", cellBehind(5, 3, 2, 30), 4);
        check.due("9: no farther than to it", cellBehind(5, 3, 6, 30), 5);
        check.due("9: no farther than to it", cellBehind(5, 3, 4, 30), 5);
        check.due("9: AT it", cellBehind(5, 3, 5, 30), 5);
    }

    private static void orphansByNumbers() {
        StraySheep x = new StraySheep();
        x.set(0, 3);
        x.sheep(4, 5);
        x.sheep(0, 5);
        x.go(1);
        check.due("9: the orphan has company yet", x.of(0, 1), 5);
        check.due("9: the other one goes", x.of(1, 1), 6);
        StraySheep y = new StraySheep();
        y.set(0, 3);
        y.sheep(0, 5);
        y.sheep(4, 5);
        y.go(1);
        check.due("9: its company has gone", y.of(0, 1), 6);
        check.due("9: the orphan goes too", y.of(1, 1), 7);
    }

    private static void wolf() {
        StraySheep x = quietHill();
        x.sheep(0, 12);
        x.sheep(0, 8);
        x.set(2, 10);
        x.go(1);
        check.due("9: of two as near the least number", x.hill(2), 11);
        check.due("9: fear of the one", x.of(0, 2), 9);
        check.due("9: not of the other, 3 cells off", x.of(1, 2), 0);
        StraySheep y = quietHill();
        y.sheep(0, 12);
        y.sheep(0, 8);
        y.sheep(0, 9);
        y.set(2, 10);
        y.set(3, 5);
        y.go(1);
        check.due("9: the nearest, no farther than to it", y.hill(2), 9);
        check.due("9: fear 3 cells off", y.of(0, 2), 0);
        check.due("9: fear 1 cell off", y.of(1, 2), 9);
        check.due("9: fear AT it", y.of(2, 2), 9);
        StraySheep z = quietHill();
        z.set(2, 10);
        z.go(1);
        check.due("9: no sheep to go to", z.hill(2), 10);
        StraySheep w = quietHill();
        w.sheep(0, 12);
        w.set(2, 10);
        w.set(3, 0);
        w.go(1);
        check.due("9: a wolf of no pace stays", w.hill(2), 10);
        check.due("9: fear 2 cells off", w.of(0, 2), 9);
        StraySheep away = quietHill();
        away.sheep(0, 0);
        away.set(1, 9);
        away.go(1);
        check.due("9: an away wolf stays away", away.hill(2), -1);
        check.due("9: and frightens none", away.of(0, 2), 0);
    }

    private static void wolfAndKeeper() {
        for (int keeper = 0; keeper < 16; keeper++) {
            StraySheep x = quietHill();
            x.sheep(0, 12);
            x.set(1, keeper);
            x.set(2, 10);
            x.go(1);
            boolean kept = keeper >= 9 && keeper <= 11;
            check.due("9: the wolf with a keeper at " + keeper, x.hill(2), kept ? 10 : 11);
            check.due("9: fear with a keeper at " + keeper, x.of(0, 2), kept ? 0 : 9);
        }
        StraySheep y = quietHill();
        y.sheep(0, 9);
        y.set(1, 9);
        y.go(1);
        check.due("9: taken up", y.hill(4), 0);
        y.sheep(0, 15);
        y.set(2, 11);
        y.go(1);
        check.due("9: the wolf goes past the carried one", y.hill(2), 12);
        check.due("9: which has no fear of it", y.of(0, 2), 0);
    }

    private static void fright() {
        int[] behind = {9, 3, 19, 24, 25, 0, 0};
        for (int kind = 0; kind < 7; kind++) {
            StraySheep x = new StraySheep();
            x.set(0, 12);
            x.set(1, 2);
            x.sheep(kind, 12);
            x.set(2, 12);
            x.go(1);
            check.due("9: fear of kind " + kind, x.of(0, 2), behind[kind]);
        }
        StraySheep x = quietHill();
        x.sheep(0, 12);
        x.set(2, 12);
        x.change(0, 2, 95);
        x.go(1);
        check.due("9: no more than 99, then calmer", x.of(0, 2), 98);
        StraySheep y = quietHill();
        y.sheep(1, 1);
        y.change(0, 2, 1);
        y.go(1);
        check.due("9: calm, 0 at least", y.of(0, 2), 0);
    }

    private static void keeper() {
        StraySheep x = quietHill();
        x.set(0, 8);
        x.set(1, 8);
        x.sheep(0, 4);
        x.sheep(0, 12);
        x.go(1);
        check.due("9: of two as far the least number", x.hill(1), 6);
        StraySheep y = quietHill();
        y.set(0, 8);
        y.set(1, 12);
        y.sheep(0, 10);
        y.sheep(0, 6);
        y.go(1);
        check.due("9: none is sought at 2 cells", y.hill(1), 10);
        y.set(1, 7);
        y.change(0, 1, 8);
        y.set(0, 8);
        y.go(1);
        check.due("9: no farther than to the fold", y.hill(1), 8);
        StraySheep z = quietHill();
        z.sheep(0, 3);
        z.sheep(0, 4);
        z.set(1, 3);
        z.go(1);
        check.due("9: the farthest, no farther than to it", z.hill(1), 4);
        check.due("9: taken up", z.hill(4), 1);
        StraySheep w = quietHill();
        w.sheep(0, 6);
        w.set(1, 3);
        w.go(1);
        check.due("9: not taken up on the way", w.hill(4), -1);
    }

    private static void carrying() {
        int[] light = {2, 1, 2, 3, 4, 1, 1};
        for (int kind = 0; kind < 7; kind++) {
            StraySheep x = Check.carrying(kind);
            x.set(1, 10);
            x.change(0, 2, 50);
            int lost = x.of(0, 3);
            x.go(1);
            check.due("9: carried of kind " + kind, x.hill(1), 10 - light[kind]);
            check.due("9: the sheep with it", x.of(0, 1), 10 - light[kind]);
            check.due("9: lost all the while", x.of(0, 3), lost + 1);
            check.due("9: not found yet", x.of(0, 4), 0);
            check.due("9: still carried", x.hill(4), 0);
            x.set(1, 1);
            x.change(0, 2, 50);
            x.go(1);
            check.due("9: home, no farther", x.of(0, 1), 0);
            check.due("9: put down", x.hill(4), -1);
            check.due("9: found", x.of(0, 4), 1);
            check.due("9: calm", x.of(0, 2), 0);
            check.due("9: not lost", x.of(0, 3), 0);
        }
    }

    private static void limits() {
        StraySheep x = Check.carrying(0);
        x.change(0, 4, 9999);
        x.set(1, 0);
        check.due("9: found no more than 9999", x.go(1), 9999);
        x.sheep(0, 2);
        x.change(1, 3, 9999);
        x.go(1);
        check.due("9: lost no more than 9999", x.of(1, 3), 9999);
    }

    private static void go() {
        StraySheep x = new StraySheep();
        int[] wrong = {0, -1, 61, Integer.MAX_VALUE, Integer.MIN_VALUE};
        for (int n : wrong) {
            check.due("9: go(" + n + ")", x.go(n), Check.BEYOND);
        }
        check.due("9: no hour went by", x.now(0), 0);
        check.due("9: 60 hours", x.go(60), 0);
        check.due("9: went by", x.now(0), 60);
        StraySheep y = new StraySheep();
        y.sheep(0, 1);
        y.sheep(0, 1);
        y.change(0, 4, 3);
        y.change(1, 4, 4);
        check.due("9: of all together", y.go(1), 7);
    }

    private static void now() {
        StraySheep x = new StraySheep();
        int[] cells = {5, 8, 2, 5, 9, 1};
        int[] fears = {3, 7, 0, 7, 1, 0};
        for (int i = 0; i < cells.length; i++) {
            x.sheep(0, cells[i]);
            x.change(i, 2, fears[i]);
            x.change(i, 3, 10 + i);
            x.change(i, 4, 100 + i);
        }
        x.set(0, 5);
        int[] now = {0, 2 + 4 + 16 + 32, 18, 615, 75, 4, 9, 1};
        for (int what = 0; what < 8; what++) {
            check.due("10: now(" + what + ")", x.now(what), now[what]);
        }
        x.change(5, 1, 2);
        x.change(4, 1, 8);
        check.due("10: of several as far the least number", x.now(5), 1);
        check.due("10: now(-1)", x.now(-1), Check.BEYOND);
        check.due("10: now(8)", x.now(8), Check.BEYOND);
        StraySheep y = Check.carrying(0);
        check.due("10: the one most far counts, carried or not", y.now(5), 0);
    }

    private static void nowOfNone() {
        StraySheep x = new StraySheep();
        int[] none = {0, 0, 0, 0, 0, -1, 0, -1};
        for (int what = 0; what < 8; what++) {
            check.due("10: now(" + what + ") without sheep", x.now(what), none[what]);
        }
        x.sheep(0, 2);
        check.due("10: 2 cells far is not sought", x.now(5), -1);
        check.due("10: 2 cells far is not 3", x.now(1), 0);
        check.due("10: the first of all that have no fear", x.now(7), 0);
        x.sheep(0, 3);
        check.due("10: 3 cells far is sought", x.now(5), 1);
    }

    private static void nowOfEight() {
        StraySheep x = new StraySheep();
        for (int i = 0; i < 8; i++) {
            x.sheep(0, 15);
            x.change(i, 2, 99);
            x.change(i, 3, 9999);
            x.change(i, 4, 9999);
        }
        int[] all = {0, 255, 8 * 99, 8 * 9999, 8 * 9999, 0, 0, 0};
        for (int what = 0; what < 8; what++) {
            check.due("10: now(" + what + ") of eight", x.now(what), all[what]);
        }
        x.set(0, 15);
        x.set(1, 8);
        x.set(2, 14);
        check.due("10: all AT the fold", x.now(6), 255);
        x.set(0, 0);
        x.set(3, 0);
        x.go(1);
        check.due("9: all eight frightened", x.now(2), 8 * 98);
        check.due("9: all eight lost", x.now(4), 8 * 9999);
    }

    /** Farther than 512 calls can come, so only this program's own way is tested here. */
    private static void lastHour() {
        StraySheep x = new StraySheep();
        for (int i = 0; i < 1666; i++) {
            x.go(60);
        }
        check.due("9: an hour near the last", x.now(0), 99960);
        check.due("9: above the last", x.go(40), Check.STATE);
        check.due("9: BEYOND is asked first", x.go(61), Check.BEYOND);
        check.due("9: near it", x.go(29), 0);
        check.due("23: above the last", x.nights(11), Check.STATE);
        check.due("23: BEYOND is asked first", x.nights(21), Check.BEYOND);
        x.image();
        check.due("23: to the last", x.nights(10), 0);
        check.due("23: the last", x.now(0), 99999);
        x.undo();
        check.due("9: to the last", x.go(10), 0);
        check.due("9: the last", x.now(0), 99999);
        check.due("9: no more", x.go(1), Check.STATE);
        check.due("23: no more", x.nights(1), Check.STATE);
        x.sheep(0, 0);
        check.due("11: but what will be is told", x.ahead(0, 1, 3), 3);
    }
}
