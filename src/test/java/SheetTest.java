/** Promises 29 to 35: spots and sheets. */
public final class SheetTest {
    private static final Check check = new Check();

    public static void main(String[] args) {
        hold();
        as();
        sheet();
        write();
        copy();
        copyFindings();
        load();
        judge();
        check.end();
    }

    private static void hold() {
        StraySheep x = new StraySheep();
        check.due("29: no such sheep", x.hold(0, 0), Check.BEYOND);
        check.due("29: nothing", x.hold(0, -1), 1);
        x.sheep(0, 3);
        for (int spot = 0; spot < 10; spot++) {
            check.due("29: spot " + spot, x.hold(spot, 0), 1);
            check.due("29: holds it", x.as(spot, 0), 0);
            check.due("29: so many", x.count(7), spot + 1);
        }
        check.due("29: nothing again", x.hold(4, -1), 1);
        check.due("29: one fewer", x.count(7), 9);
        int[][] wrong = {{-1, 0}, {10, 0}, {0, -2}, {0, 1}};
        for (int[] w : wrong) {
            check.due("29: hold(" + w[0] + ", " + w[1] + ")", x.hold(w[0], w[1]), Check.BEYOND);
        }
    }

    private static void as() {
        StraySheep x = new StraySheep();
        boolean[][] under = new boolean[7][7];
        int[][] pairs = {{1, 0}, {2, 0}, {5, 0}, {3, 2}, {3, 0}, {4, 3}, {4, 2}, {4, 0}, {6, 1}, {6, 0}};
        for (int[] p : pairs) {
            under[p[0]][p[1]] = true;
        }
        for (int kind = 0; kind < 7; kind++) {
            x.sheep(kind, 0);
            x.hold(kind, kind);
            for (int asked = 0; asked < 7; asked++) {
                boolean so = kind == asked || under[kind][asked];
                check.due("30: kind " + kind + " as " + asked, x.as(kind, asked), so ? kind : Check.KIND);
            }
        }
        check.due("30: nothing held", x.as(9, 0), Check.MISSING);
        int[][] wrong = {{-1, 0}, {10, 0}, {9, -1}, {9, 7}, {0, 7}};
        for (int[] w : wrong) {
            check.due("30: as(" + w[0] + ", " + w[1] + ")", x.as(w[0], w[1]), Check.BEYOND);
        }
        x.change(0, 0, 4);
        check.due("30: of its kind now", x.as(0, 3), 0);
    }

    private static void sheet() {
        StraySheep x = new StraySheep();
        int[] bits = {8, 16, 32};
        for (int b : bits) {
            check.due("31: none", x.sheet(1, b, 0), 0);
            check.due("31: it stands", x.judge(1), 0);
            check.due("31: 40", x.sheet(1, b, 40), 40);
            check.due("31: 41", x.sheet(1, b, 41), Check.BEYOND);
            check.due("31: below 0", x.sheet(1, b, -1), Check.SIZE);
            check.due("31: the last number", x.write(1, 39, 1), 1);
        }
        check.due("31: no such sheet before SIZE", x.sheet(4, 8, -1), Check.BEYOND);
        check.due("31: no such sheet", x.sheet(-1, 8, 1), Check.BEYOND);
        check.due("31: other bits before SIZE", x.sheet(0, 7, -1), Check.BEYOND);
        check.due("31: other bits", x.sheet(0, 64, 1), Check.BEYOND);
        check.due("31: other bits", x.sheet(0, -8, 1), Check.BEYOND);
        check.due("31: SIZE with bits 0", x.sheet(1, 0, -1), Check.SIZE);
        check.due("31: BEYOND with bits 0", x.sheet(1, 0, 41), Check.BEYOND);
        check.due("31: it still stands", x.write(1, 39, 1), 1);
        check.due("31: away with it", x.sheet(1, 0, 5), 0);
        check.due("31: it is MISSING", x.write(1, 0, 1), Check.MISSING);
        x.sheep(0, 0);
        x.sheet(0, 8, 1);
        x.write(0, 0, 9);
        check.due("31: not 0", x.judge(0), 1);
        x.sheet(0, 8, 1);
        check.due("31: all 0 anew", x.judge(0), 0);
    }

    /** What a number of a sheet is told as: the fear that it gives, if it is one. */
    private static int fearBy(int bits, int v) {
        StraySheep x = new StraySheep();
        x.sheep(0, 0);
        x.sheet(0, bits, 1);
        x.write(0, 0, v);
        return x.load(0) == 1 ? x.of(0, 2) : -1;
    }

    private static void write() {
        StraySheep x = new StraySheep();
        check.due("32: no such sheet", x.write(-1, 0, 0), Check.BEYOND);
        check.due("32: no such sheet", x.write(4, 0, 0), Check.BEYOND);
        check.due("32: MISSING before no such number", x.write(0, -1, 0), Check.MISSING);
        x.sheet(0, 8, 2);
        check.due("32: below", x.write(0, -1, 0), Check.BEYOND);
        check.due("32: above", x.write(0, 2, 0), Check.BEYOND);
        check.due("32: the last", x.write(0, 1, 7), 1);
        check.due("32: 8 bits", fearBy(8, 256 + 7), 7);
        check.due("32: 8 bits, with their sign", fearBy(8, 255), -1);
        check.due("32: 8 bits, with their sign", fearBy(8, -256 + 9), 9);
        check.due("32: 16 bits", fearBy(16, 65536 + 7), 7);
        check.due("32: 16 bits", fearBy(16, 256 + 7), -1);
        check.due("32: 16 bits", fearBy(16, -65536 + 9), 9);
        check.due("32: 32 bits", fearBy(32, 65536 + 7), -1);
        check.due("32: 32 bits", fearBy(32, 99), 99);
    }

    private static StraySheep withSheets() {
        StraySheep x = new StraySheep();
        for (int i = 0; i < 6; i++) {
            x.sheep(0, 0);
        }
        x.sheet(0, 8, 6);
        x.sheet(1, 8, 6);
        for (int i = 0; i < 6; i++) {
            x.write(0, i, i + 1);
        }
        return x;
    }

    private static void holds(StraySheep x, int s, int... numbers) {
        for (int i = 0; i < numbers.length; i++) {
            x.change(i, 1, numbers[i]);
        }
        check.due("33: what sheet " + s + " has", x.judge(s), 0);
    }

    private static void copy() {
        StraySheep x = withSheets();
        check.due("33: to another", x.copy(0, 1, 1, 2, 3), 3);
        holds(x, 1, 0, 0, 2, 3, 4, 0);
        check.due("33: up in itself", x.copy(0, 0, 0, 1, 5), 5);
        holds(x, 0, 1, 1, 2, 3, 4, 5);
        check.due("33: down in itself", x.copy(0, 2, 0, 0, 4), 4);
        holds(x, 0, 2, 3, 4, 5, 4, 5);
        check.due("33: all", x.copy(0, 0, 1, 0, 6), 6);
        holds(x, 1, 2, 3, 4, 5, 4, 5);
        check.due("33: none", x.copy(0, 6, 1, 6, 0), 0);
    }

    private static void copyFindings() {
        StraySheep x = withSheets();
        x.sheet(2, 16, 6);
        check.due("33: no such sheet", x.copy(-1, 0, 1, 0, 1), Check.BEYOND);
        check.due("33: no such sheet", x.copy(4, 0, 3, 0, 1), Check.BEYOND);
        check.due("33: no such sheet before MISSING", x.copy(3, 0, 4, 0, 1), Check.BEYOND);
        check.due("33: no such sheet", x.copy(0, 0, -1, 0, 1), Check.BEYOND);
        check.due("33: from MISSING", x.copy(3, 0, 0, 0, 1), Check.MISSING);
        check.due("33: to MISSING", x.copy(0, -1, 3, 0, 1), Check.MISSING);
        check.due("33: other bits", x.copy(0, -1, 2, 0, 1), Check.KIND);
        int[][] wrong = {{-1, 0, 1}, {0, -1, 1}, {0, 0, -1}, {1, 0, 6}, {0, 1, 6}, {0, 0, 7}, {7, 0, 0}, {0, 7, 0},
            {Integer.MAX_VALUE, 0, 1}, {0, Integer.MAX_VALUE, 1}, {1, 1, Integer.MAX_VALUE},
            {Integer.MAX_VALUE, Integer.MAX_VALUE, Integer.MAX_VALUE}};
        for (int[] w : wrong) {
            check.due("33: copy(0, " + w[0] + ", 1, " + w[1] + ", " + w[2] + ")",
                    x.copy(0, w[0], 1, w[1], w[2]), Check.BEYOND);
        }
        holds(x, 1, 0, 0, 0, 0, 0, 0);
    }

    private static void load() {
        StraySheep x = new StraySheep();
        check.due("34: no such sheet", x.load(-1), Check.BEYOND);
        check.due("34: no such sheet", x.load(4), Check.BEYOND);
        check.due("34: MISSING", x.load(2), Check.MISSING);
        x.sheet(2, 16, 4);
        check.due("34: no sheep", x.load(2), 0);
        for (int i = 0; i < 3; i++) {
            x.sheep(0, 0);
            x.change(i, 2, 50);
        }
        x.write(2, 0, 99);
        check.due("34: as many as there are sheep", x.load(2), 3);
        check.due("34: the first", x.of(0, 2), 99);
        check.due("34: the last", x.of(2, 2), 0);
        x.change(2, 2, 50);
        x.write(2, 0, 1);
        x.write(2, 1, 100);
        check.due("34: up to one that is no fear", x.load(2), 1);
        check.due("34: it came", x.of(0, 2), 1);
        check.due("34: no other", x.of(1, 2) + x.of(2, 2), 50);
        x.write(2, 0, -1);
        check.due("34: below 0", x.load(2), 0);
        x.sheet(2, 8, 2);
        check.due("34: fewer numbers", x.load(2), 2);
        check.due("34: the others stay", x.of(2, 2), 50);
        x.sheet(2, 8, 0);
        check.due("34: no numbers", x.load(2), 0);
    }

    private static void judge() {
        StraySheep x = new StraySheep();
        check.due("35: no such sheet", x.judge(-1), Check.BEYOND);
        check.due("35: no such sheet", x.judge(4), Check.BEYOND);
        check.due("35: MISSING", x.judge(3), Check.MISSING);
        x.sheet(3, 32, 3);
        check.due("35: no such sheep", x.judge(3), 1);
        int[] cells = {0, 7, 15};
        for (int i = 0; i < 3; i++) {
            x.sheep(0, cells[i]);
        }
        check.due("35: the second isn't so", x.judge(3), 2);
        x.write(3, 1, 7);
        check.due("35: the third isn't so", x.judge(3), 3);
        x.write(3, 2, 15);
        check.due("35: all are so", x.judge(3), 0);
        x.write(3, 0, 1);
        check.due("35: the first isn't so", x.judge(3), 1);
        x.sheet(3, 8, 1);
        check.due("35: all that it tells is so", x.judge(3), 0);
        x.sheet(3, 8, 0);
        check.due("35: it tells nothing", x.judge(3), 0);
        x.sheet(3, 8, 40);
        check.due("35: 40 numbers", x.judge(3), 2);
    }
}
