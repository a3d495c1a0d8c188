/** Promises 11 to 15: what will be, while nothing changes. */
public final class AheadTest {
    private static final Check check = new Check();

    public static void main(String[] args) {
        ahead();
        later();
        when();
        home();
        panic();
        nothingChanges();
        check.end();
    }

    /** Its ten hours stand in HoursTest, hour by hour. */
    private static StraySheep oneSheep() {
        StraySheep x = new StraySheep();
        x.sheep(0, 0);
        return x;
    }

    private static void ahead() {
        StraySheep x = oneSheep();
        int[] cell = {0, 1, 1, 1, 2, 2, 2, 3, 3, 1, 0};
        int[] lost = {0, 1, 2, 3, 4, 5, 6, 7, 8, 9, 0};
        for (int n = 0; n <= 10; n++) {
            check.due("11: cell behind " + n, x.ahead(0, 1, n), cell[n]);
            check.due("11: lost behind " + n, x.ahead(0, 3, n), lost[n]);
            check.due("11: found behind " + n, x.ahead(0, 4, n), n == 10 ? 1 : 0);
        }
        x.change(0, 2, 40);
        check.due("11: fear now", x.ahead(0, 2, 0), 40);
        check.due("11: fear behind 9", x.ahead(0, 2, 9), 31);
        check.due("11: fear behind 10", x.ahead(0, 2, 10), 0);
        x.go(60);
        int later = x.ahead(0, 3, 100);
        x.go(60);
        x.go(40);
        check.due("11: behind 100", later, x.of(0, 3));
        int[][] wrong = {{-1, 1, 0}, {1, 1, 0}, {0, 0, 0}, {0, 5, 0}, {0, 1, -1}, {0, 1, 101}};
        for (int[] w : wrong) {
            check.due("11: ahead(" + w[0] + ", " + w[1] + ", " + w[2] + ")",
                    x.ahead(w[0], w[1], w[2]), Check.BEYOND);
        }
    }

    private static void later() {
        StraySheep x = oneSheep();
        int[] keeper = {0, 0, 0, 0, 0, 0, 0, 2, 3, 1, 0};
        for (int n = 0; n <= 10; n++) {
            check.due("12: keeper behind " + n, x.later(1, n), keeper[n]);
            check.due("12: carried behind " + n, x.later(4, n), n == 8 || n == 9 ? 0 : -1);
            check.due("12: wolf behind " + n, x.later(2, n), -1);
        }
        x.set(2, 15);
        x.set(3, 3);
        check.due("12: wolf now", x.later(2, 0), 15);
        check.due("12: wolf behind 2", x.later(2, 2), 9);
        check.due("12: behind 100", x.later(1, 100) >= 0 ? 1 : 0, 1);
        int[][] wrong = {{0, 0}, {3, 0}, {5, 0}, {-1, 0}, {1, -1}, {1, 101}};
        for (int[] w : wrong) {
            check.due("12: later(" + w[0] + ", " + w[1] + ")", x.later(w[0], w[1]), Check.BEYOND);
        }
    }

    private static void when() {
        StraySheep x = oneSheep();
        check.due("13: found 0", x.when(0, 0), 0);
        check.due("13: found 1", x.when(0, 1), 10);
        x.change(0, 4, 9998);
        check.due("13: found 9999", x.when(0, 9999), 10);
        check.due("13: or more", x.when(0, 9997), 0);
        x.change(0, 4, 0);
        check.due("13: not behind 200", x.when(0, 9999), Check.NONE);
        int[][] wrong = {{-1, 0}, {1, 0}, {0, -1}, {0, 10000}};
        for (int[] w : wrong) {
            check.due("13: when(" + w[0] + ", " + w[1] + ")", x.when(w[0], w[1]), Check.BEYOND);
        }
        lastHourOfWhen();
    }

    /** The hour of the last find within 200, and one hour earlier, by which it comes too late. */
    private static void lastHourOfWhen() {
        StraySheep x = oneSheep();
        for (int i = 0; i < 100; i++) {
            int found = x.ahead(0, 4, 100);
            int behind = x.when(0, found);
            check.yes("13: within 100", behind <= 100 && x.ahead(0, 4, behind) == found);
            check.yes("13: the fewest", behind == 0 || x.ahead(0, 4, behind - 1) < found);
            x.go(1);
        }
        StraySheep y = new StraySheep();
        y.sheep(1, 0);
        int times = 0;
        while (y.when(0, times + 1) != Check.NONE) {
            times++;
        }
        int last = y.when(0, times);
        for (int i = 0; i < 30 && y.when(0, times + 1) == Check.NONE; i++) {
            y.go(1);
            last--;
        }
        check.due("13: behind 200 itself", y.when(0, times + 1), 200);
        check.due("13: the one before as much nearer", y.when(0, times), last);
    }

    private static void home() {
        StraySheep x = new StraySheep();
        check.due("14: without sheep", x.home(), 0);
        x.sheep(0, 0);
        check.due("14: all are", x.home(), 0);
        x.go(1);
        check.due("14: behind 9", x.home(), 9);
        StraySheep w = new StraySheep();
        w.sheep(5, 5);
        w.sheep(5, 9);
        check.due("14: of two wanderers one is always out", w.home(), Check.NONE);
        StraySheep y = new StraySheep();
        y.go(1);
        y.sheep(6, 1);
        y.sheep(2, 2);
        y.change(1, 2, 99);
        check.due("14: a leader and a ewe come by themselves", y.home(), 2);
        StraySheep z = new StraySheep();
        Check.read(z, "orphan at 10 fear 80;ewe at 2;lamb at 2 fear 80;wanderer at 15;wolf 13 pace 0");
        z.go(21);
        check.due("14: behind 201", z.home(), Check.NONE);
        z.go(1);
        check.due("14: behind 200", z.home(), 200);
        z.go(1);
        check.due("14: behind 199", z.home(), 199);
    }

    private static void panic() {
        StraySheep x = new StraySheep();
        x.go(1);
        x.set(0, 12);
        x.sheep(0, 12);
        x.set(2, 14);
        x.set(3, 0);
        check.due("15: no fear", x.panic(0, 0), 0);
        check.due("15: fear 9", x.panic(0, 9), 1);
        check.due("15: fear 10", x.panic(0, 10), 2);
        check.due("15: fear 18", x.panic(0, 18), 2);
        x.change(0, 2, 99);
        check.due("15: now", x.panic(0, 99), 0);
        x.set(2, -1);
        x.change(0, 2, 50);
        check.due("15: never", x.panic(0, 51), Check.NONE);
        check.due("15: or more", x.panic(0, 49), 0);
        int[][] wrong = {{-1, 0}, {1, 0}, {0, -1}, {0, 100}};
        for (int[] w : wrong) {
            check.due("15: panic(" + w[0] + ", " + w[1] + ")", x.panic(w[0], w[1]), Check.BEYOND);
        }
    }

    private static void nothingChanges() {
        StraySheep x = oneSheep();
        x.sheep(5, 3);
        x.set(2, 9);
        x.ahead(0, 1, 50);
        x.later(1, 50);
        x.when(0, 9);
        x.home();
        x.panic(0, 99);
        check.due("11 to 15: hour", x.now(0), 0);
        check.due("11 to 15: cells", x.of(0, 1) * 100 + x.of(1, 1), 3);
        check.due("11 to 15: keeper", x.hill(1), 0);
        check.due("11 to 15: wolf", x.hill(2), 9);
        check.due("11 to 15: lost", x.now(4), 0);
    }
}
