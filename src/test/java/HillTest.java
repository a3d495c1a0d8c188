/** Promises 1 to 8: a new object, the hill and its sheep. */
public final class HillTest {
    private static final Check check = new Check();

    public static void main(String[] args) {
        newObject();
        set();
        setWithSheepCarried();
        hill();
        sheep();
        of();
        strays();
        change();
        drop();
        who();
        check.end();
    }

    private static void newObject() {
        StraySheep x = new StraySheep();
        int[] hill = {0, 0, -1, 1, -1};
        for (int what = 0; what < 5; what++) {
            check.due("1: hill(" + what + ")", x.hill(what), hill[what]);
        }
        int[] count = {0, 0, 0, 0, 0, 0, 1, 0};
        for (int what = 0; what < 8; what++) {
            check.due("1: count(" + what + ")", x.count(what), count[what]);
        }
        check.due("1: no finding yet", x.status(-1), 0);
        check.due("1: nothing kept", x.tear(), 0);
        check.due("1: nothing kept", x.undo(), Check.NONE);
        check.due("1: no sheep", x.of(0, 0), Check.BEYOND);
        for (int spot = 0; spot < 10; spot++) {
            check.due("1: spot " + spot, x.as(spot, 0), Check.MISSING);
        }
        for (int s = 0; s < 4; s++) {
            check.due("1: sheet " + s, x.judge(s), Check.MISSING);
        }
    }

    private static void set() {
        StraySheep x = new StraySheep();
        check.due("2: fold", x.set(0, 15), 0);
        check.due("2: fold", x.set(0, 0), 15);
        check.due("2: keeper", x.set(1, 15), 0);
        check.due("2: keeper", x.set(1, 3), 15);
        check.due("2: wolf", x.set(2, 15), -1);
        check.due("2: wolf", x.set(2, -1), 15);
        check.due("2: wolf", x.set(2, 4), -1);
        check.due("2: pace", x.set(3, 5), 1);
        check.due("2: pace", x.set(3, 0), 5);
        int[][] wrong = {{-1, 0}, {4, 0}, {0, -1}, {0, 16}, {1, -1}, {1, 16}, {2, -2}, {2, 16},
            {3, -1}, {3, 6}, {Integer.MAX_VALUE, 0}, {0, Integer.MIN_VALUE}};
        for (int[] w : wrong) {
            check.due("2: set(" + w[0] + ", " + w[1] + ")", x.set(w[0], w[1]), Check.BEYOND);
        }
        int[] hill = {0, 3, 4, 0};
        for (int what = 0; what < 4; what++) {
            check.due("2: hill(" + what + ") as set", x.hill(what), hill[what]);
        }
    }

    private static void setWithSheepCarried() {
        StraySheep x = Check.carrying(0);
        x.sheep(0, 7);
        check.due("2: carried", x.hill(4), 0);
        x.set(1, 11);
        check.due("2: the carried one comes along", x.of(0, 1), 11);
        check.due("2: another one doesn't", x.of(1, 1), 7);
        x.set(0, 11);
        check.due("2: it stays carried AT the fold", x.hill(4), 0);
        check.due("2: nor does it come with the fold", x.of(0, 1), 11);
    }

    private static void hill() {
        StraySheep x = Check.carrying(1);
        x.set(0, 1);
        x.set(1, 9);
        x.set(2, 13);
        x.set(3, 4);
        int[] hill = {1, 9, 13, 4, 0};
        for (int what = 0; what < 5; what++) {
            check.due("3: hill(" + what + ")", x.hill(what), hill[what]);
        }
        check.due("3: hill(-1)", x.hill(-1), Check.BEYOND);
        check.due("3: hill(5)", x.hill(5), Check.BEYOND);
    }

    private static void sheep() {
        StraySheep x = new StraySheep();
        int[][] wrong = {{-1, 0}, {7, 0}, {0, -1}, {0, 16}};
        for (int[] w : wrong) {
            check.due("4: sheep(" + w[0] + ", " + w[1] + ")", x.sheep(w[0], w[1]), Check.BEYOND);
        }
        check.due("4: none came", x.count(1), 0);
        for (int i = 0; i < 8; i++) {
            check.due("4: its number", x.sheep(i % 7, 15 - i), i);
            check.due("4: its kind", x.of(i, 0), i % 7);
            check.due("4: its cell", x.of(i, 1), 15 - i);
            for (int what = 2; what < 5; what++) {
                check.due("4: nothing else yet", x.of(i, what), 0);
            }
        }
        check.due("4: a ninth", x.sheep(0, 0), Check.FULL);
        check.due("4: BEYOND is asked first", x.sheep(7, 0), Check.BEYOND);
        check.due("4: still eight", x.count(1), 8);
    }

    private static void of() {
        StraySheep x = new StraySheep();
        int[] fears = {10, 5, 20, 25, 25, 0, 0};
        int[] calms = {1, 2, 1, 1, 0, 1, 4};
        int[] light = {2, 1, 2, 3, 4, 1, 1};
        for (int kind = 0; kind < 7; kind++) {
            x.sheep(kind, kind);
        }
        x.set(0, 4);
        for (int kind = 0; kind < 7; kind++) {
            check.due("5: FAR", x.of(kind, 5), Math.abs(kind - 4));
            check.due("5: FEARS", x.of(kind, 7), fears[kind]);
            check.due("5: CALMS", x.of(kind, 8), calms[kind]);
            check.due("5: LIGHT", x.of(kind, 9), light[kind]);
        }
        int[][] wrong = {{-1, 0}, {7, 0}, {0, -1}, {0, 10}};
        for (int[] w : wrong) {
            check.due("5: of(" + w[0] + ", " + w[1] + ")", x.of(w[0], w[1]), Check.BEYOND);
        }
    }

    /** STRAYS by hours and fears; one of a kind alone in its cell. */
    private static void strays() {
        int[] fears = {0, 29, 30, 49, 50, 99};
        int[][] atMultiple = {
            {1, 1, 1, 2, 2, 2, 0}, {1, 1, 1, 2, 2, 2, 0}, {1, 1, -1, -2, -2, 2, 0},
            {1, 1, -1, -2, -2, 2, 0}, {1, 2, -1, -2, -2, 2, 1}, {1, 2, -1, -2, -2, 2, 1}};
        int[][] between = {
            {0, 0, 0, 0, 0, 2, -1}, {0, 0, 0, 0, 0, 2, -1}, {0, 0, -1, -2, -2, 2, -1},
            {0, 0, -1, -2, -2, 2, -1}, {0, 1, -1, -2, -2, 2, 0}, {0, 1, -1, -2, -2, 2, 0}};
        for (int hour = 0; hour < 4; hour++) {
            for (int f = 0; f < fears.length; f++) {
                for (int kind = 0; kind < 7; kind++) {
                    StraySheep x = new StraySheep();
                    if (hour > 0) {
                        x.go(hour);
                    }
                    x.sheep(kind, 8);
                    x.change(0, 2, fears[f]);
                    check.due("5: STRAYS of kind " + kind + ", fear " + fears[f] + ", hour " + hour,
                            x.of(0, 6), (hour % 3 == 0 ? atMultiple : between)[f][kind]);
                }
            }
        }
        StraySheep x = new StraySheep();
        x.sheep(4, 8);
        x.sheep(0, 9);
        check.due("5: an orphan near another", x.of(0, 6), 2);
        x.change(1, 1, 8);
        check.due("5: an orphan with another", x.of(0, 6), 0);
        check.due("5: that other one", x.of(1, 6), 1);
    }

    private static void change() {
        StraySheep x = new StraySheep();
        x.sheep(2, 5);
        x.sheep(2, 5);
        int[] was = {2, 5, 0, 0, 0};
        int[] most = {6, 15, 99, 9999, 9999};
        for (int what = 0; what < 5; what++) {
            check.due("6: below", x.change(0, what, -1), Check.BEYOND);
            check.due("6: above", x.change(0, what, most[what] + 1), Check.BEYOND);
            check.due("6: what it was", x.change(0, what, most[what]), was[what]);
            check.due("6: what it is", x.of(0, what), most[what]);
            check.due("6: the least", x.change(0, what, 0), most[what]);
            check.due("6: another one stays", x.of(1, what), was[what]);
        }
        check.due("6: another what", x.change(0, 5, 0), Check.BEYOND);
        check.due("6: another what", x.change(0, -1, 0), Check.BEYOND);
        check.due("6: no such sheep", x.change(2, 0, 0), Check.BEYOND);
        check.due("6: no such sheep", x.change(-1, 0, 0), Check.BEYOND);
        StraySheep y = Check.carrying(0);
        int cell = y.of(0, 1);
        check.due("6: the cell of the carried one", y.change(0, 1, 2), Check.STATE);
        check.due("6: even where it is", y.change(0, 1, cell), Check.STATE);
        check.due("6: BEYOND is asked first", y.change(0, 1, 16), Check.BEYOND);
        check.due("6: it stayed", y.of(0, 1), cell);
        check.due("6: but its fear", y.change(0, 2, 7), 0);
        check.due("6: is changed", y.of(0, 2), 7);
    }

    private static void drop() {
        StraySheep x = new StraySheep();
        check.due("7: nothing to drop", x.drop(), Check.NONE);
        StraySheep y = Check.carrying(0);
        int cell = y.of(0, 1);
        y.change(0, 2, 40);
        check.due("7: which it was", y.drop(), 0);
        check.due("7: carries none", y.hill(4), -1);
        check.due("7: it is where the keeper is", y.of(0, 1), cell);
        check.due("7: not found by that", y.of(0, 4), 0);
        check.due("7: nor calm", y.of(0, 2), 40);
        check.due("7: only once", y.drop(), Check.NONE);
    }

    private static void who() {
        StraySheep x = new StraySheep();
        x.sheep(0, 15);
        x.sheep(0, 0);
        x.sheep(0, 15);
        check.due("8: two", x.who(15), 5);
        check.due("8: one", x.who(0), 2);
        check.due("8: none", x.who(7), 0);
        check.due("8: below", x.who(-1), Check.BEYOND);
        check.due("8: above", x.who(16), Check.BEYOND);
        StraySheep y = Check.carrying(0);
        check.due("8: the carried one too", y.who(y.hill(1)), 1);
    }
}
