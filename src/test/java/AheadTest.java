/** Promises 11 to 15: what will be, while nothing changes. */
public final class AheadTest {
    private static final Check check = new Check();

    /**
     * One plain sheep on a new hill, hour by hour (HoursTest tells its first ten): it goes at the
     * multiples of 3, is sought at its third cell, and is found at HOUR 10, 22, 34 and so on, as
     * every 12 hours begin alike. Here is what is so at HOUR h, in place (h + 2) % 12.
     */
    private static final int[] CELL = {0, 0, 0, 1, 1, 1, 2, 2, 2, 3, 3, 1};
    private static final int[] KEEPER = {0, 0, 0, 0, 0, 0, 0, 0, 0, 2, 3, 1};
    private static final int[] CARRIED = {-1, -1, -1, -1, -1, -1, -1, -1, -1, -1, 0, 0};
    private static final int[] LOST = {0, 0, 0, 1, 2, 3, 4, 5, 6, 7, 8, 9};

    public static void main(String[] args) {
        ahead();
        aheadOfFear();
        aheadIsWhatComes();
        later();
        laterOfWolf();
        when();
        whenLast();
        home();
        homeLast();
        homeNever();
        panic();
        panicLast();
        nothingChanges();
        check.end();
    }

    private static StraySheep oneSheep() {
        StraySheep x = new StraySheep();
        x.sheep(0, 0);
        return x;
    }

    private static void ahead() {
        check.says("What 1 to 4 (as in of()) of a SHEEP behind n (0 to 100) HOURS.");
        StraySheep x = oneSheep();
        for (int n = 0; n <= 100; n++) {
            int place = (n + 2) % 12;
            check.due("cell behind " + n, x.ahead(0, 1, n), CELL[place]);
            check.due("lost behind " + n, x.ahead(0, 3, n), LOST[place]);
            check.due("found behind " + n, x.ahead(0, 4, n), (n + 2) / 12);
        }
        x.go(4);
        check.due("from HOUR 4 on", x.ahead(0, 3, 5), LOST[11]);
        check.due("behind 0, as it is", x.ahead(0, 3, 0), x.of(0, 3));
    }

    private static void aheadOfFear() {
        check.says("What 1 to 4 (as in of()) of a SHEEP behind n (0 to 100) HOURS: 2 FEAR");
        StraySheep x = oneSheep();
        x.change(0, 2, 40);
        check.due("now", x.ahead(0, 2, 0), 40);
        check.due("behind 1", x.ahead(0, 2, 1), 39);
        check.due("behind 9", x.ahead(0, 2, 9), 31);
        check.due("behind 10, found", x.ahead(0, 2, 10), 0);
        StraySheep y = new StraySheep();
        y.sheep(4, 1);
        y.sheep(4, 1);
        y.change(0, 2, 77);
        check.due("of one that never calms, behind 100", y.ahead(0, 2, 100), 77);
    }

    private static StraySheep manySheep() {
        StraySheep x = new StraySheep();
        Hills.read(x, "ram at 3 fear 60;ewe at 14;lamb at 9 fear 20;wanderer at 7;wolf 12 pace 2;fold 6;keeper 11");
        return x;
    }

    private static void aheadIsWhatComes() {
        check.says("behind n HOURS: as n HOURS leave it");
        int[] ways = {1, 7, 60, 99, 100};
        for (int n : ways) {
            StraySheep x = manySheep();
            int[] told = new int[19];
            for (int i = 0; i < 16; i++) {
                told[i] = x.ahead(i / 4, 1 + i % 4, n);
            }
            int[] features = {1, 2, 4};
            for (int i = 0; i < 3; i++) {
                told[16 + i] = x.later(features[i], n);
            }
            for (int left = n; left > 0; left -= 60) {
                x.go(Math.min(left, 60));
            }
            for (int i = 0; i < 16; i++) {
                check.due("of(" + i / 4 + ", " + (1 + i % 4) + ") behind " + n, told[i], x.of(i / 4, 1 + i % 4));
            }
            for (int i = 0; i < 3; i++) {
                check.due("hill(" + features[i] + ") behind " + n, told[16 + i], x.hill(features[i]));
            }
        }
    }

    private static void later() {
        check.says("What 1, 2, 4 (as in hill()) behind n (0 to 100) HOURS.");
        StraySheep x = oneSheep();
        for (int n = 0; n <= 100; n++) {
            int place = (n + 2) % 12;
            check.due("keeper behind " + n, x.later(1, n), KEEPER[place]);
            check.due("carried behind " + n, x.later(4, n), CARRIED[place]);
        }
    }

    private static void laterOfWolf() {
        check.says("What 1, 2, 4 (as in hill()) behind n (0 to 100) HOURS: 2 THE WOLF");
        StraySheep x = oneSheep();
        check.due("away", x.later(2, 100), -1);
        x.set(2, 15);
        x.set(3, 3);
        check.due("now", x.later(2, 0), 15);
        check.due("behind 1", x.later(2, 1), 12);
        check.due("behind 2", x.later(2, 2), 9);
        StraySheep y = new StraySheep();
        y.set(2, 15);
        check.due("of none to go to, behind 100", y.later(2, 100), 15);
    }

    private static void when() {
        check.says("Behind how many HOURS (0 to 200, the fewest) FOUND of a SHEEP is v (0 to 9999) or more.");
        StraySheep x = oneSheep();
        check.due("0 times", x.when(0, 0), 0);
        for (int v = 1; v <= 16; v++) {
            check.due(v + " times", x.when(0, v), 12 * v - 2);
        }
        x.change(0, 4, 5);
        check.due("found as often before", x.when(0, 5), 0);
        check.due("found more often before", x.when(0, 4), 0);
        check.due("once more", x.when(0, 6), 10);
        x.change(0, 4, 9998);
        check.due("9999 times", x.when(0, 9999), 10);
        x.change(0, 4, 9999);
        check.due("9999 times before", x.when(0, 9999), 0);
    }

    private static void whenLast() {
        check.says("(0 to 200, the fewest) FOUND .. NONE.");
        StraySheep x = oneSheep();
        check.due("17 times, behind 202", x.when(0, 17), Check.NONE);
        x.go(1);
        check.due("behind 201", x.when(0, 17), Check.NONE);
        x.go(1);
        check.due("behind 200", x.when(0, 17), 200);
        x.go(1);
        check.due("behind 199", x.when(0, 17), 199);
        check.due("9999 times", x.when(0, 9999), Check.NONE);
    }

    private static void home() {
        check.says("Behind how many HOURS (0 to 200, the fewest) all SHEEP are AT THE FOLD.");
        check.due("there are none", new StraySheep().home(), 0);
        StraySheep x = oneSheep();
        check.due("all are", x.home(), 0);
        for (int left = 9; left > 0; left--) {
            x.go(1);
            check.due("from HOUR " + (10 - left) + " on", x.home(), left);
        }
        x.go(1);
        check.due("at HOUR 10", x.home(), 0);
        StraySheep y = Hills.quiet();
        y.sheep(6, 1);
        y.sheep(2, 2);
        y.change(1, 2, 99);
        check.due("a leader and a ewe come by themselves", y.home(), 2);
        StraySheep z = Hills.carrying(0, 3);
        check.due("one carried home", z.home(), 2);
        z.set(1, 0);
        check.due("one carried AT the fold", z.home(), 0);
    }

    /** Behind how many hours all are AT the fold, told by the hours themselves. */
    private static int homeHourByHour(StraySheep x) {
        int all = (1 << x.count(1)) - 1;
        for (int n = 0; n <= 210; n++) {
            if (x.now(6) == all) {
                return n;
            }
            x.go(1);
        }
        return -1;
    }

    private static StraySheep lateHome(int hoursBefore) {
        StraySheep x = new StraySheep();
        Hills.read(x, "orphan at 10 fear 80;ewe at 2;lamb at 2 fear 80;wanderer at 15;wolf 13 pace 0");
        x.go(hoursBefore);
        return x;
    }

    private static void homeLast() {
        check.says("Behind how many HOURS (0 to 200, the fewest) all SHEEP are AT THE FOLD. NONE.");
        check.due("hour by hour", homeHourByHour(lateHome(21)), 201);
        check.due("behind 201", lateHome(21).home(), Check.NONE);
        check.due("hour by hour", homeHourByHour(lateHome(22)), 200);
        check.due("behind 200", lateHome(22).home(), 200);
        check.due("behind 199", lateHome(23).home(), 199);
    }

    /** A wanderer is AT the fold only in the hour in which the keeper puts it down there. */
    private static void homeNever() {
        check.says("Behind how many HOURS .. all SHEEP are AT THE FOLD. NONE.");
        StraySheep x = new StraySheep();
        x.sheep(5, 5);
        x.sheep(5, 9);
        check.due("two wanderers", x.home(), Check.NONE);
        StraySheep y = new StraySheep();
        y.sheep(4, 1);
        y.sheep(4, 1);
        check.due("two orphans that stay together", y.home(), Check.NONE);
    }

    private static void panic() {
        check.says("Behind how many HOURS (0 to 200, the fewest) FEAR of a SHEEP is v (0 to 99) or more.");
        StraySheep x = Hills.quiet();
        x.set(0, 12);
        x.sheep(0, 12);
        x.set(2, 14);
        x.set(3, 0);
        check.due("fear 0", x.panic(0, 0), 0);
        check.due("fear 1", x.panic(0, 1), 1);
        check.due("fear 9", x.panic(0, 9), 1);
        check.due("fear 10", x.panic(0, 10), 2);
        check.due("fear 18", x.panic(0, 18), 2);
        x.change(0, 2, 50);
        check.due("as much as now", x.panic(0, 50), 0);
        check.due("less than now", x.panic(0, 49), 0);
        check.due("more than now", x.panic(0, 51), 1);
        x.change(0, 2, 99);
        check.due("fear 99", x.panic(0, 99), 0);
        x.set(2, -1);
        x.change(0, 2, 50);
        check.due("as much as now, without a wolf", x.panic(0, 50), 0);
        check.says("FEAR of a SHEEP is v (0 to 99) or more. NONE.");
        check.due("more than now, without a wolf", x.panic(0, 51), Check.NONE);
        x.sheep(6, 12);
        x.set(2, 13);
        check.due("a leader, which nothing frightens", x.panic(1, 1), Check.NONE);
    }

    /** Behind how many hours fear of sheep 0 is 39 or more, told by the hours themselves. */
    private static int panicHourByHour(StraySheep x) {
        for (int n = 0; n <= 210; n++) {
            if (x.of(0, 2) >= 39) {
                return n;
            }
            x.go(1);
        }
        return -1;
    }

    private static StraySheep latePanic(int hoursBefore) {
        StraySheep x = new StraySheep();
        Hills.read(x, "ram;ram;sheep at 11;wolf 13");
        x.go(hoursBefore);
        return x;
    }

    private static void panicLast() {
        check.says("Behind how many HOURS (0 to 200, the fewest) FEAR of a SHEEP is v (0 to 99) or more. NONE.");
        check.due("hour by hour", panicHourByHour(latePanic(2)), 201);
        check.due("behind 201", latePanic(2).panic(0, 39), Check.NONE);
        check.due("hour by hour", panicHourByHour(latePanic(3)), 200);
        check.due("behind 200", latePanic(3).panic(0, 39), 200);
        check.due("behind 199", latePanic(4).panic(0, 39), 199);
    }

    private static void nothingChanges() {
        check.says("what will be (nothing changes)");
        StraySheep x = manySheep();
        StraySheep y = manySheep();
        x.ahead(0, 1, 50);
        x.later(1, 50);
        x.when(0, 3);
        x.home();
        x.panic(0, 99);
        check.alike(x, y, 4);
    }
}
