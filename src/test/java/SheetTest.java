/** Promises 29 to 35: spots and sheets. */
public final class SheetTest {
    private static final Check check = new Check();

    public static void main(String[] args) {
        hold();
        holdNothing();
        as();
        asOfChanged();
        asMissing();
        sheet();
        sheetMissing();
        sheetAnew();
        write();
        lowestBits();
        withTheirSign();
        copy();
        copyAsTheyAllWere();
        copyNone();
        copyWrapsAround();
        copyOfBits();
        load();
        loadEnds();
        loadOfNone();
        judge();
        judgeOfOthers();
        judgeOfNone();
        check.end();
    }

    private static StraySheep sheepAt(int... cells) {
        StraySheep x = new StraySheep();
        for (int cell : cells) {
            x.sheep(0, cell);
        }
        return x;
    }

    private static void hold() {
        check.says("A SPOT holds a SHEEP, or nothing (-1): 1.");
        StraySheep x = sheepAt(3, 4, 5, 6, 7, 8, 9, 10);
        for (int spot = 0; spot < 10; spot++) {
            check.due("spot " + spot, x.hold(spot, spot % 8), 1);
            check.due("how many hold something", x.count(7), spot + 1);
        }
        for (int spot = 0; spot < 10; spot++) {
            check.due("what spot " + spot + " holds", x.as(spot, 0), spot % 8);
        }
        check.due("another one", x.hold(9, 7), 1);
        check.due("what it holds now", x.as(9, 0), 7);
        check.due("how many hold something", x.count(7), 10);
    }

    private static void holdNothing() {
        check.says("A SPOT holds .. nothing (-1): 1.");
        StraySheep x = sheepAt(3);
        check.due("a spot that held nothing", x.hold(0, -1), 1);
        check.due("how many hold something", x.count(7), 0);
        x.hold(0, 0);
        x.hold(9, 0);
        check.due("a spot that held a sheep", x.hold(0, -1), 1);
        check.due("it holds nothing", x.as(0, 0), Check.MISSING);
        check.due("another one does", x.as(9, 0), 0);
        check.due("how many hold something", x.count(7), 1);
        check.due("without sheep", new StraySheep().hold(9, -1), 1);
    }

    private static void as() {
        check.says("What a SPOT holds as one of a kind (0 to 6): the number of the SHEEP. "
                + "KIND: it isn't of that kind, nor of one under it.");
        boolean[][] isUnder = new boolean[7][7];
        int[][] pairs = {{1, 0}, {2, 0}, {5, 0}, {3, 2}, {3, 0}, {4, 3}, {4, 2}, {4, 0}, {6, 1}, {6, 0}};
        for (int[] p : pairs) {
            isUnder[p[0]][p[1]] = true;
        }
        StraySheep x = new StraySheep();
        for (int kind = 0; kind < 7; kind++) {
            x.sheep(kind, 0);
            x.hold(9 - kind, kind);
            for (int asked = 0; asked < 7; asked++) {
                boolean isSo = kind == asked || isUnder[kind][asked];
                check.due("one of kind " + kind + " as " + asked, x.as(9 - kind, asked), isSo ? kind : Check.KIND);
            }
        }
    }

    private static void asOfChanged() {
        check.says("KIND: it isn't of that kind, nor of one under it: as it is now");
        StraySheep x = sheepAt(5, 5);
        x.hold(3, 1);
        check.due("a plain sheep", x.as(3, 3), Check.KIND);
        x.change(1, 0, 4);
        check.due("an orphan now", x.as(3, 3), 1);
        x.change(0, 0, 4);
        x.change(1, 0, 6);
        check.due("a leader now", x.as(3, 3), Check.KIND);
    }

    private static void asMissing() {
        check.says("MISSING: it holds nothing.");
        StraySheep x = sheepAt(5);
        x.hold(4, 0);
        for (int spot = 0; spot < 10; spot++) {
            check.due("spot " + spot, x.as(spot, 0), spot == 4 ? 0 : Check.MISSING);
            check.due("spot " + spot + " as a leader", x.as(spot, 6), spot == 4 ? Check.KIND : Check.MISSING);
        }
    }

    private static void sheet() {
        check.says("A sheet has n numbers, all 0, of 8, 16 or 32 bits: n");
        int[] bits = {8, 16, 32};
        int[] lengths = {0, 1, 39, 40};
        for (int s = 0; s < 4; s++) {
            for (int b : bits) {
                for (int n : lengths) {
                    StraySheep x = sheepAt(0, 0, 0, 0, 0, 0, 0, 0);
                    check.due(n + " numbers of " + b + " bits", x.sheet(s, b, n), n);
                    check.due("all 0", x.judge(s), n > 8 ? 9 : 0);
                    check.due("the last of " + n, n > 0 ? x.write(s, n - 1, 1) : 1, 1);
                    check.due("behind the last of " + n, x.write(s, n, 1), Check.BEYOND);
                }
            }
        }
    }

    private static void sheetMissing() {
        check.says("bits 0: it is MISSING: n (0 if it is MISSING).");
        StraySheep x = sheepAt(0);
        int[] lengths = {0, 1, 5, 40};
        for (int n : lengths) {
            x.sheet(1, 8, 3);
            check.due("sheet(1, 0, " + n + ")", x.sheet(1, 0, n), 0);
            check.due("it is MISSING", x.judge(1), Check.MISSING);
            check.due("once more", x.sheet(1, 0, n), 0);
        }
        check.says("sheet: (also with bits 0)");
        x.sheet(1, 8, 3);
        check.due("SIZE", x.sheet(1, 0, -1), Check.SIZE);
        check.due("BEYOND", x.sheet(1, 0, 41), Check.BEYOND);
        check.due("it still stands", x.judge(1), 2);
    }

    private static void sheetAnew() {
        check.says("A sheet has n numbers, all 0: that had others, too");
        StraySheep x = sheepAt(0, 0, 0);
        Hills.tell(x, 2, 32, 7, 8, 9);
        check.due("they aren't 0", x.judge(2), 1);
        check.due("as many of other bits", x.sheet(2, 8, 3), 3);
        check.due("all 0", x.judge(2), 0);
        Hills.tell(x, 2, 8, 7, 8, 9);
        x.sheet(2, 8, 1);
        check.due("fewer, then as many", x.sheet(2, 8, 3), 3);
        check.due("all 0", x.judge(2), 0);
        Hills.tell(x, 2, 8, 7, 8, 9);
        x.sheet(2, 0, 0);
        check.due("none, then as many", x.sheet(2, 8, 3), 3);
        check.due("all 0", x.judge(2), 0);
        Hills.tell(x, 2, 8, 7, 8, 9);
        x.sheet(2, 8, 41);
        check.due("not by a refused call", x.judge(2), 1);
        x.sheet(1, 8, 40);
        x.write(1, 39, 5);
        x.sheet(1, 8, 40);
        x.copy(1, 39, 2, 0, 1);
        x.copy(1, 0, 2, 1, 2);
        check.due("the last of forty, too", x.judge(2), 0);
    }

    private static void write() {
        check.says("Number i of a sheet becomes v (its lowest bits): 1.");
        StraySheep x = sheepAt(0, 0, 0);
        x.sheet(0, 16, 3);
        check.due("the last", x.write(0, 2, 15), 1);
        check.due("the first", x.write(0, 0, 3), 1);
        x.change(0, 1, 3);
        x.change(2, 1, 15);
        check.due("as they were written", x.judge(0), 0);
        check.due("written over", x.write(0, 2, 14), 1);
        check.due("another one now", x.judge(0), 3);
    }

    /** Whether the number that comes of v is that of a sheep's cell. */
    private static void becomes(int bits, int v, int cell) {
        StraySheep x = sheepAt(cell);
        Hills.tell(x, 3, bits, v);
        check.due(v + " of " + bits + " bits", x.judge(3), 0);
    }

    private static void becomesNot(int bits, int v, int cell) {
        StraySheep x = sheepAt(cell);
        Hills.tell(x, 3, bits, v);
        check.due(v + " of " + bits + " bits", x.judge(3), 1);
    }

    private static void lowestBits() {
        check.says("Number i of a sheet becomes v (its lowest bits)");
        becomes(8, 256 + 7, 7);
        becomes(8, -256 + 7, 7);
        becomes(8, 65536, 0);
        becomes(8, Integer.MIN_VALUE + 7, 7);
        becomes(16, 65536 + 7, 7);
        becomes(16, -65536 + 7, 7);
        becomesNot(16, 256 + 7, 7);
        becomes(16, Integer.MIN_VALUE + 7, 7);
        becomes(32, 7, 7);
        becomesNot(32, 256 + 7, 7);
        becomesNot(32, 65536 + 7, 7);
        becomesNot(32, Integer.MIN_VALUE + 7, 7);
    }

    /** Whether a number is -1: any cell of a told way. */
    private static int isAny(int bits, int v) {
        StraySheep x = sheepAt(5);
        Hills.tell(x, 3, bits, v);
        return x.kinds(3, 0) == 127 ? 1 : 0;
    }

    private static void withTheirSign() {
        check.says("rows of at most 40 numbers of 8, 16 or 32 bits (told with their sign: of 8 bits 255 is -1)");
        check.due("255 of 8 bits", isAny(8, 255), 1);
        check.due("511 of 8 bits", isAny(8, 511), 1);
        check.due("-1 of 8 bits", isAny(8, -1), 1);
        check.due("the greatest int of 8 bits", isAny(8, Integer.MAX_VALUE), 1);
        check.due("127 of 8 bits", isAny(8, 127), 0);
        check.due("255 of 16 bits", isAny(16, 255), 0);
        check.due("65535 of 16 bits", isAny(16, 65535), 1);
        check.due("-1 of 16 bits", isAny(16, -1), 1);
        check.due("the greatest int of 16 bits", isAny(16, Integer.MAX_VALUE), 1);
        check.due("32767 of 16 bits", isAny(16, 32767), 0);
        check.due("65535 of 32 bits", isAny(32, 65535), 0);
        check.due("the greatest int of 32 bits", isAny(32, Integer.MAX_VALUE), 0);
        check.due("-1 of 32 bits", isAny(32, -1), 1);
        StraySheep x = sheepAt(0);
        Hills.tell(x, 0, 8, 128);
        check.due("128 of 8 bits is no fear", x.load(0), 0);
        Hills.tell(x, 0, 16, 32768);
        check.due("32768 of 16 bits is no fear", x.load(0), 0);
    }

    /** Six sheep to tell numbers by; sheet 0 is 1 to 6, sheet 1 is all 0. */
    private static StraySheep withSheets() {
        StraySheep x = sheepAt(0, 0, 0, 0, 0, 0);
        Hills.tell(x, 0, 8, 1, 2, 3, 4, 5, 6);
        x.sheet(1, 8, 6);
        return x;
    }

    private static void holds(StraySheep x, int s, int... numbers) {
        for (int i = 0; i < numbers.length; i++) {
            x.change(i, 1, numbers[i]);
        }
        check.due("what sheet " + s + " has", x.judge(s), 0);
    }

    private static void copy() {
        check.says("n numbers of a sheet from one on come to another one from one on: n.");
        StraySheep x = withSheets();
        check.due("three", x.copy(0, 1, 1, 2, 3), 3);
        holds(x, 1, 0, 0, 2, 3, 4, 0);
        holds(x, 0, 1, 2, 3, 4, 5, 6);
        check.due("the last to the last", x.copy(0, 5, 1, 5, 1), 1);
        holds(x, 1, 0, 0, 2, 3, 4, 6);
        check.due("the last to the first", x.copy(0, 5, 1, 0, 1), 1);
        holds(x, 1, 6, 0, 2, 3, 4, 6);
        check.due("all", x.copy(0, 0, 1, 0, 6), 6);
        holds(x, 1, 1, 2, 3, 4, 5, 6);
        StraySheep y = new StraySheep();
        y.sheet(2, 32, 40);
        y.sheet(3, 32, 40);
        check.due("forty", y.copy(2, 0, 3, 0, 40), 40);
    }

    private static void copyAsTheyAllWere() {
        check.says("copy: (as they all were)");
        StraySheep x = withSheets();
        check.due("up in itself", x.copy(0, 0, 0, 1, 5), 5);
        holds(x, 0, 1, 1, 2, 3, 4, 5);
        check.due("down in itself", x.copy(0, 2, 0, 0, 4), 4);
        holds(x, 0, 2, 3, 4, 5, 4, 5);
        check.due("onto itself", x.copy(0, 0, 0, 0, 6), 6);
        holds(x, 0, 2, 3, 4, 5, 4, 5);
        check.due("by two up", x.copy(0, 1, 0, 3, 3), 3);
        holds(x, 0, 2, 3, 4, 3, 4, 5);
    }

    private static void copyNone() {
        check.says("copy: BEYOND: one has not so many, or from, to or n is below 0: with n 0");
        StraySheep x = withSheets();
        check.due("none", x.copy(0, 0, 1, 0, 0), 0);
        check.due("none from the end", x.copy(0, 6, 1, 6, 0), 0);
        check.due("none from behind the end", x.copy(0, 7, 1, 0, 0), Check.BEYOND);
        check.due("none to behind the end", x.copy(0, 0, 1, 7, 0), Check.BEYOND);
        holds(x, 1, 0, 0, 0, 0, 0, 0);
        x.sheet(2, 8, 0);
        check.due("none of a sheet without numbers", x.copy(2, 0, 0, 0, 0), 0);
        check.due("one of it", x.copy(2, 0, 0, 0, 1), Check.BEYOND);
        check.due("one to it", x.copy(0, 0, 2, 0, 1), Check.BEYOND);
    }

    private static void copyWrapsAround() {
        check.says("copy: BEYOND: one has not so many, or from, to or n is below 0.");
        StraySheep x = withSheets();
        int most = Integer.MAX_VALUE;
        int least = Integer.MIN_VALUE;
        int[][] refused = {{-1, 0, 1}, {0, -1, 1}, {0, 0, -1}, {6, 0, 1}, {0, 6, 1}, {0, 0, 7}, {1, 0, 6}, {0, 1, 6},
            {5, 0, 2}, {0, 5, 2}, {most, 0, 1}, {0, most, 1}, {0, 0, most}, {1, 1, most}, {most, most, most},
            {least, 0, 1}, {0, least, 1}, {0, 0, least}, {most, 0, most}, {least, least, least}, {most, 0, least},
            {-1, 1, 1}, {2, 0, -1}};
        for (int[] w : refused) {
            check.due("copy(0, " + w[0] + ", 1, " + w[1] + ", " + w[2] + ")", x.copy(0, w[0], 1, w[1], w[2]),
                    Check.BEYOND);
        }
        holds(x, 1, 0, 0, 0, 0, 0, 0);
        x.sheet(1, 8, 3);
        check.due("more than the other one has", x.copy(0, 0, 1, 0, 4), Check.BEYOND);
        check.due("more than the one has", x.copy(1, 0, 0, 0, 4), Check.BEYOND);
        check.due("as many as the other one has", x.copy(0, 3, 1, 0, 3), 3);
    }

    private static void copyOfBits() {
        check.says("copy: KIND: they are not of as many bits.");
        int[] bits = {8, 16, 32};
        for (int one : bits) {
            for (int other : bits) {
                StraySheep x = new StraySheep();
                x.sheet(0, one, 2);
                x.sheet(3, other, 2);
                check.due(one + " to " + other, x.copy(0, 0, 3, 0, 2), one == other ? 2 : Check.KIND);
                check.due("none, " + one + " to " + other, x.copy(0, 0, 3, 0, 0), one == other ? 0 : Check.KIND);
            }
        }
    }

    private static void load() {
        check.says("Numbers of a sheet, from its begin on, become FEAR of SHEEP 0, 1, ..: how many came.");
        StraySheep x = sheepAt(0, 0, 0, 0, 0, 0, 0, 0);
        Hills.tell(x, 2, 8, 0, 99, 1, 98, 50, 51, 2, 3);
        check.due("all eight", x.load(2), 8);
        int[] fear = {0, 99, 1, 98, 50, 51, 2, 3};
        for (int s = 0; s < 8; s++) {
            check.due("fear of " + s, x.of(s, 2), fear[s]);
        }
        Hills.tell(x, 2, 16, 7, 8);
        check.due("two", x.load(2), 2);
        check.due("the second", x.of(1, 2), 8);
        check.due("the third stays", x.of(2, 2), 1);
        Hills.tell(x, 2, 32, 9);
        check.due("one", x.load(2), 1);
        check.due("the first", x.of(0, 2), 9);
    }

    private static void loadEnds() {
        check.says("It ends at the first that isn't 0 to 99, or for which there is no SHEEP.");
        int[] wrong = {-1, 100, -128, 127, 1000, 30000, Integer.MAX_VALUE, Integer.MIN_VALUE};
        for (int v : wrong) {
            for (int place = 0; place < 3; place++) {
                StraySheep x = sheepAt(0, 0, 0);
                Hills.tell(x, 1, 32, 10, 20, 30);
                x.write(1, place, v);
                check.due(v + " in place " + place, x.load(1), place);
                check.due("fear of all", x.now(2), place == 0 ? 0 : place == 1 ? 10 : 30);
            }
        }
        StraySheep x = sheepAt(0, 0);
        Hills.tell(x, 1, 8, 5, 6, 7);
        check.due("a third sheep there isn't", x.load(1), 2);
        check.due("fear of both", x.now(2), 11);
        x.sheet(1, 8, 40);
        check.due("forty numbers", x.load(1), 2);
    }

    private static void loadOfNone() {
        check.says("load: how many came: none");
        StraySheep x = new StraySheep();
        x.sheet(0, 8, 5);
        check.due("there is no sheep", x.load(0), 0);
        x.sheep(0, 0);
        x.sheet(0, 8, 0);
        check.due("there are no numbers", x.load(0), 0);
    }

    private static void judge() {
        check.says("THE READER: numbers of a sheet are CELLS of SHEEP 0, 1, ..: 0 if so; "
                + "else 1 and the place of the first that isn't so.");
        int[] cells = {0, 15, 7, 3, 3, 1, 14, 8};
        StraySheep x = sheepAt(cells);
        Hills.tell(x, 3, 8, cells);
        check.due("all eight", x.judge(3), 0);
        for (int place = 7; place >= 0; place--) {
            x.write(3, place, 16);
            check.due("not in place " + place, x.judge(3), 1 + place);
        }
        Hills.tell(x, 3, 32, 256);
        check.due("256 isn't cell 0", x.judge(3), 1);
        Hills.tell(x, 3, 8, 256);
        check.due("256 of 8 bits is", x.judge(3), 0);
    }

    private static void judgeOfOthers() {
        check.says("judge: .. of SHEEP 0, 1, ..: as many as there are numbers");
        StraySheep x = sheepAt(0, 0);
        x.sheet(3, 8, 1);
        check.due("fewer numbers", x.judge(3), 0);
        x.sheet(3, 8, 3);
        check.due("a number for which there is no sheep", x.judge(3), 3);
        x.sheet(3, 8, 40);
        check.due("forty", x.judge(3), 3);
    }

    private static void judgeOfNone() {
        check.says("judge: 0 if so: of no numbers, or of no SHEEP");
        StraySheep x = new StraySheep();
        x.sheet(3, 8, 0);
        check.due("neither", x.judge(3), 0);
        x.sheet(3, 8, 1);
        check.due("no sheep", x.judge(3), 1);
        x.sheep(0, 0);
        x.sheet(3, 8, 0);
        check.due("no numbers", x.judge(3), 0);
    }
}
