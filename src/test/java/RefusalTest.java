import java.util.ArrayList;
import java.util.List;

/**
 * Every call that is refused, promise by promise: its finding, in the order in which findings are
 * asked, and that nothing changes but status(); and that what is just within isn't refused.
 */
public final class RefusalTest {
    private static final int LEAST_INT = Integer.MIN_VALUE;
    private static final int MOST_INT = Integer.MAX_VALUE;
    private static final int RAM = 0;
    private static final int EWE = 1;

    private static final Check check = new Check();
    /** Whether calls are made on the hill on which all is full, or on the busy one. */
    private static boolean onFull = false;

    public static void main(String[] args) {
        set();
        hill();
        sheep();
        of();
        change();
        drop();
        who();
        go();
        now();
        ahead();
        later();
        when();
        home();
        panic();
        standFor();
        foldFor();
        kindFor();
        paceFor();
        tether();
        fits();
        kinds();
        nights();
        odds();
        feed();
        hold();
        as();
        sheet();
        write();
        copy();
        loadAndJudge();
        undo();
        count();
        status();
        check.end();
    }

    /** The keeper carries a ram; one spot holds nothing, sheet 3 is MISSING, another hill is kept. */
    private static StraySheep busyHill() {
        StraySheep x = Hills.carrying(1, 10);
        x.sheep(2, 6);
        x.sheep(4, 3);
        x.change(1, 2, 34);
        x.change(2, 3, 56);
        x.change(1, 4, 7);
        x.set(0, 5);
        x.set(2, 14);
        for (int spot = 0; spot < 9; spot++) {
            x.hold(spot, spot % 3);
        }
        Hills.tell(x, 0, 8, 10, 6, 3);
        Hills.tell(x, 1, 8, 3, 60);
        Hills.tell(x, 2, 16, 9, 8, 7);
        x.image();
        x.set(3, 2);
        x.seed(77);
        x.change(2, 2, 21);
        x.hold(0, 2);
        Hills.feed(x, "fold 9;ewe at 4");
        return x;
    }

    /** Eight sheep, two of them wanderers; 117 bytes, 40 numbers in a sheet; none carried, nothing kept. */
    private static StraySheep fullHill() {
        StraySheep x = new StraySheep();
        for (int kind = 0; kind < 7; kind++) {
            x.sheep(kind, 2 * kind);
        }
        x.sheep(5, 14);
        x.change(3, 2, 40);
        x.set(2, 9);
        x.sheet(0, 32, 40);
        x.write(0, 0, 50);
        x.write(0, 39, 9);
        Hills.feed(x, "keeper 3" + " ".repeat(109));
        return x;
    }

    private static StraySheep newHill() {
        return onFull ? fullHill() : busyHill();
    }

    /** What stands on the hill, in spots and on the tape. */
    private static void readHill(StraySheep x, List<Integer> all) {
        for (int what = 0; what < 5; what++) {
            all.add(x.hill(what));
        }
        for (int what = 0; what < 8; what++) {
            all.add(x.count(what));
        }
        for (int s = 0; s < x.count(1); s++) {
            for (int what = 0; what < 5; what++) {
                all.add(x.of(s, what));
            }
        }
        for (int spot = 0; spot < 10; spot++) {
            all.add(x.as(spot, 0));
        }
    }

    private static void readSheets(StraySheep x, List<Integer> all) {
        for (int s = 0; s < 4; s++) {
            all.add(x.judge(s));
            all.add(x.copy(s, 0, 0, 0, 0));
            all.add(x.write(s, 2, 11));
            all.add(x.write(s, 3, 12));
            all.add(x.write(s, 39, 13));
            all.add(x.load(s));
            all.add(x.of(0, 2));
            all.add(x.of(1, 2));
        }
    }

    /** All that can be told of an object; it isn't used any more behind that. */
    private static List<Integer> all(StraySheep x) {
        List<Integer> all = new ArrayList<>();
        readHill(x, all);
        all.add(x.text());
        readHill(x, all);
        readSheets(x, all);
        all.add(x.nights(2));
        readHill(x, all);
        all.add(x.undo());
        readHill(x, all);
        all.add(x.tear());
        return all;
    }

    private static String told(int promise, int... a) {
        return (onFull ? "full" : "busy") + " hill, promise " + promise + java.util.Arrays.toString(a);
    }

    private static void refused(int finding, int promise, int... a) {
        StraySheep x = newHill();
        int[] before = new int[8];
        for (int which = -1; which < 7; which++) {
            before[1 + which] = x.status(which);
        }
        check.due(told(promise, a), Calls.call(x, promise, a), finding);
        for (int which = -1; which < 7; which++) {
            boolean isCounted = which == -1 || which == Check.BEYOND - finding;
            check.due("status(" + which + ") behind " + told(promise, a), x.status(which),
                    before[1 + which] + (isCounted ? 1 : 0));
        }
        check.yes("nothing changes by " + told(promise, a), all(x).equals(all(newHill())));
    }

    private static void taken(int promise, int... a) {
        check.yes("not BEYOND: " + told(promise, a), Calls.call(newHill(), promise, a) != Check.BEYOND);
    }

    private static int[] with(int[] arguments, int place, int v) {
        int[] a = arguments.clone();
        a[place] = v;
        return a;
    }

    /** BEYOND: an argument below the least or above the most, the others being as they may be. */
    private static void range(int promise, int place, int least, int most, int... arguments) {
        int[] beyond = {least - 1, most + 1, LEAST_INT, MOST_INT, LEAST_INT + least, MOST_INT - most};
        for (int v : beyond) {
            refused(Check.BEYOND, promise, with(arguments, place, v));
        }
        taken(promise, with(arguments, place, least));
        taken(promise, with(arguments, place, most));
    }

    private static void busy(String sentence) {
        onFull = false;
        check.says(sentence);
    }

    private static void full(String sentence) {
        onFull = true;
        check.says(sentence);
    }

    private static void set() {
        busy("set: BEYOND.");
        range(2, 0, 0, 3, 0, 3);
        range(2, 1, 0, 15, 0, 0);
        range(2, 1, 0, 15, 1, 0);
        range(2, 1, -1, 15, 2, 0);
        range(2, 1, 0, 5, 3, 0);
        refused(Check.BEYOND, 2, 4, 0);
        refused(Check.BEYOND, 2, 4, -1);
    }

    private static void hill() {
        busy("hill: BEYOND.");
        range(3, 0, 0, 4, 0);
    }

    private static void sheep() {
        busy("sheep: BEYOND.");
        range(4, 0, 0, 6, 0, 5);
        range(4, 1, 0, 15, 3, 0);
        full("sheep: BEYOND. FULL.");
        refused(Check.FULL, 4, 0, 0);
        refused(Check.FULL, 4, 6, 15);
        refused(Check.BEYOND, 4, 7, 0);
        refused(Check.BEYOND, 4, -1, 0);
        refused(Check.BEYOND, 4, 0, 16);
        refused(Check.BEYOND, 4, 0, -1);
    }

    private static void of() {
        busy("of: BEYOND.");
        range(5, 0, 0, 2, 0, 0);
        range(5, 1, 0, 9, 2, 0);
        full("of: BEYOND: of eight");
        range(5, 0, 0, 7, 0, 9);
    }

    private static void change() {
        busy("change: BEYOND.");
        range(6, 0, 0, 2, 0, 2, 5);
        range(6, 1, 0, 4, EWE, 0, 5);
        int[] most = {6, 15, 99, 9999, 9999};
        for (int what = 0; what < 5; what++) {
            range(6, 2, 0, most[what], EWE, what, 0);
        }
        refused(Check.BEYOND, 6, EWE, 5, 0);
        busy("change: BEYOND. STATE: CELL of that which is CARRIED.");
        refused(Check.STATE, 6, RAM, 1, 2);
        refused(Check.STATE, 6, RAM, 1, 10);
        refused(Check.STATE, 6, RAM, 1, 0);
        refused(Check.STATE, 6, RAM, 1, 15);
        refused(Check.BEYOND, 6, RAM, 1, 16);
        refused(Check.BEYOND, 6, RAM, 1, -1);
        full("change: BEYOND: no such SHEEP: -1, while none is CARRIED");
        refused(Check.BEYOND, 6, -1, 1, 5);
    }

    private static void drop() {
        full("drop: NONE: it CARRIES none.");
        refused(Check.NONE, 7);
    }

    private static void who() {
        busy("who: BEYOND.");
        range(8, 0, 0, 15, 0);
    }

    private static void go() {
        busy("n HOURS (1 to 60): BEYOND.");
        range(9, 0, 1, 60, 1);
        refused(Check.BEYOND, 9, 0);
    }

    private static void now() {
        busy("now: BEYOND.");
        range(10, 0, 0, 7, 0);
    }

    private static void ahead() {
        busy("ahead: What 1 to 4 .. behind n (0 to 100) HOURS. BEYOND.");
        range(11, 0, 0, 2, 0, 1, 0);
        range(11, 1, 1, 4, EWE, 1, 0);
        range(11, 2, 0, 100, EWE, 4, 0);
    }

    private static void later() {
        busy("later: What 1, 2, 4 .. behind n (0 to 100) HOURS. BEYOND.");
        int[] others = {-1, 0, 3, 5, 6, LEAST_INT, MOST_INT};
        for (int what : others) {
            refused(Check.BEYOND, 12, what, 0);
        }
        int[] those = {1, 2, 4};
        for (int what : those) {
            range(12, 1, 0, 100, what, 0);
        }
    }

    private static void when() {
        busy("when: FOUND of a SHEEP is v (0 to 9999) or more. BEYOND.");
        range(13, 0, 0, 2, 0, 0);
        range(13, 1, 0, 9999, EWE, 0);
        busy("when: NONE.");
        refused(Check.NONE, 13, EWE, 9999);
    }

    private static void home() {
        full("home: NONE.");
        // One of two wanderers is always out: it is AT the fold but in the hour in which it is put down.
        refused(Check.NONE, 14);
    }

    private static void panic() {
        busy("panic: FEAR of a SHEEP is v (0 to 99) or more. BEYOND.");
        range(15, 0, 0, 2, 0, 0);
        range(15, 1, 0, 99, EWE, 0);
        full("panic: NONE.");
        // Nothing frightens a wanderer or a leader.
        refused(Check.NONE, 15, 5, 1);
        refused(Check.NONE, 15, 6, 99);
    }

    private static void standFor() {
        full("standFor: behind n (0 to 40) HOURS. BEYOND.");
        range(16, 0, 0, 40, 0);
        busy("standFor: BEYOND. STATE: it CARRIES one.");
        refused(Check.STATE, 16, 0);
        refused(Check.STATE, 16, 40);
        refused(Check.BEYOND, 16, 41);
        refused(Check.BEYOND, 16, -1);
    }

    private static void foldFor() {
        busy("foldFor: behind n (0 to 40) HOURS. BEYOND.");
        range(17, 0, 0, 40, 0);
    }

    private static void kindFor() {
        busy("kindFor: behind n (0 to 40) HOURS. BEYOND.");
        range(18, 0, 0, 2, 0, 0);
        range(18, 1, 0, 40, EWE, 0);
    }

    private static void paceFor() {
        busy("paceFor: no more than v (0 to 999) behind n (0 to 40) HOURS. BEYOND.");
        range(19, 0, 0, 999, 0, 0);
        range(19, 1, 0, 40, 999, 0);
        busy("paceFor: NONE.");
        refused(Check.NONE, 19, 0, 0);
    }

    private static void tether() {
        busy("tether: behind n (0 to 20) HOURS. BEYOND.");
        range(20, 0, 0, 20, 0);
        full("tether: NONE.");
        refused(Check.NONE, 20, 0);
    }

    private static void fits() {
        busy("fits: BEYOND: no such sheet.");
        range(21, 0, 0, 3, 0, EWE);
        refused(Check.BEYOND, 21, 4, 9);
        busy("fits: BEYOND: no such sheet. MISSING.");
        refused(Check.MISSING, 21, 3, EWE);
        busy("fits: MISSING. BEYOND: no such SHEEP.");
        range(21, 1, 0, 2, 2, 0);
        refused(Check.MISSING, 21, 3, 3);
        refused(Check.MISSING, 21, 3, -1);
        busy("fits: MISSING. BEYOND: no such SHEEP. STATE: it is CARRIED.");
        refused(Check.STATE, 21, 2, RAM);
        refused(Check.MISSING, 21, 3, RAM);
        refused(Check.BEYOND, 21, -1, RAM);
        full("fits: BEYOND: no such SHEEP: -1, while none is CARRIED");
        refused(Check.BEYOND, 21, 0, -1);
    }

    private static void kinds() {
        busy("kinds: BEYOND: no such sheet.");
        range(22, 0, 0, 3, 0, EWE);
        refused(Check.BEYOND, 22, 4, 9);
        busy("kinds: BEYOND: no such sheet. MISSING.");
        refused(Check.MISSING, 22, 3, EWE);
        busy("kinds: MISSING. BEYOND: no such SHEEP.");
        range(22, 1, 0, 2, 2, 0);
        refused(Check.MISSING, 22, 3, 3);
        refused(Check.MISSING, 22, 3, -1);
    }

    private static void nights() {
        busy("nights: n times (1 to 20): BEYOND.");
        range(23, 0, 1, 20, 1);
        refused(Check.BEYOND, 23, 0);
    }

    private static void odds() {
        busy("odds: by none of n (0 to 15): BEYOND.");
        range(24, 0, 0, 2, 0, 0, 0);
        range(24, 1, 0, 15, EWE, 0, 0);
        range(24, 2, 0, 1, EWE, 15, 0);
    }

    private static void feed() {
        busy("feed: BEYOND: n.");
        range(26, 1, 1, 4, 32, 1);
        refused(Check.BEYOND, 26, 32, 0);
        full("feed: BEYOND: n. FULL.");
        refused(Check.FULL, 26, 32, 4);
        taken(26, 32, 3);
        refused(Check.BEYOND, 26, 32, 5);
        refused(Check.BEYOND, 26, 32, 0);
        refused(Check.BEYOND, 26, 32, -1);
    }

    private static void hold() {
        busy("hold: BEYOND.");
        range(29, 0, 0, 9, 0, EWE);
        range(29, 0, 0, 9, 0, -1);
        range(29, 1, -1, 2, 9, 0);
        full("hold: BEYOND: of eight");
        range(29, 1, -1, 7, 9, 0);
    }

    private static void as() {
        busy("as: BEYOND.");
        range(30, 0, 0, 9, 0, 0);
        range(30, 1, 0, 6, 1, 0);
        busy("as: BEYOND. MISSING: it holds nothing.");
        refused(Check.MISSING, 30, 9, 0);
        refused(Check.MISSING, 30, 9, 6);
        refused(Check.BEYOND, 30, 9, 7);
        refused(Check.BEYOND, 30, 9, -1);
        busy("as: KIND: it isn't of that kind, nor of one under it.");
        refused(Check.KIND, 30, 1, 1);
        refused(Check.KIND, 30, 1, 4);
        refused(Check.BEYOND, 30, 1, 7);
    }

    private static void sheet() {
        busy("sheet: BEYOND: no such sheet, other bits.");
        range(31, 0, 0, 3, 0, 8, 5);
        range(31, 0, 0, 3, 0, 0, 5);
        int[] others = {-1, 1, 4, 7, 9, 15, 17, 24, 31, 33, 64, -8, -32, LEAST_INT, MOST_INT, 256 + 8};
        for (int bits : others) {
            refused(Check.BEYOND, 31, 0, bits, 5);
            refused(Check.BEYOND, 31, 3, bits, 5);
        }
        busy("sheet: SIZE: n is below 0 (also with bits 0). BEYOND: n is above 40 (also with bits 0).");
        int[] bits = {0, 8, 16, 32};
        for (int b : bits) {
            for (int s = 0; s < 4; s++) {
                refused(Check.SIZE, 31, s, b, -1);
                refused(Check.BEYOND, 31, s, b, 41);
            }
            refused(Check.SIZE, 31, 1, b, LEAST_INT);
            refused(Check.BEYOND, 31, 1, b, MOST_INT);
            taken(31, 1, b, 0);
            taken(31, 1, b, 40);
        }
        busy("sheet: BEYOND: no such sheet, other bits. SIZE: n is below 0: in that order");
        refused(Check.BEYOND, 31, 4, 8, -1);
        refused(Check.BEYOND, 31, -1, 0, -1);
        refused(Check.BEYOND, 31, 0, 7, -1);
        refused(Check.BEYOND, 31, 3, -1, LEAST_INT);
    }

    private static void write() {
        busy("write: BEYOND: no such sheet.");
        range(32, 0, 0, 3, 0, 0, 5);
        refused(Check.BEYOND, 32, 4, -1, 5);
        busy("write: BEYOND: no such sheet. MISSING.");
        refused(Check.MISSING, 32, 3, 0, 5);
        refused(Check.MISSING, 32, 3, -1, 5);
        refused(Check.MISSING, 32, 3, 40, 5);
        busy("write: MISSING. BEYOND: no such number.");
        range(32, 1, 0, 2, 0, 0, 5);
        range(32, 1, 0, 1, 1, 0, 5);
        full("write: BEYOND: no such number: of forty");
        range(32, 1, 0, 39, 0, 0, 5);
    }

    private static void copy() {
        busy("copy: BEYOND: no such sheet (either).");
        range(33, 0, 0, 3, 0, 0, 1, 0, 1);
        range(33, 2, 0, 3, 0, 0, 1, 0, 1);
        refused(Check.BEYOND, 33, 4, 0, -1, 0, 1);
        busy("copy: BEYOND: no such sheet (either). MISSING: one is.");
        refused(Check.MISSING, 33, 3, 0, 0, 0, 1);
        refused(Check.MISSING, 33, 0, 0, 3, 0, 1);
        refused(Check.MISSING, 33, 3, 0, 3, 0, 0);
        refused(Check.BEYOND, 33, 3, 0, 4, 0, 1);
        refused(Check.BEYOND, 33, -1, 0, 3, 0, 1);
        busy("copy: MISSING: one is. KIND: they are not of as many bits.");
        refused(Check.KIND, 33, 0, 0, 2, 0, 1);
        refused(Check.KIND, 33, 2, 0, 1, 0, 0);
        refused(Check.MISSING, 33, 2, 0, 3, 0, 1);
        busy("copy: KIND: they are not of as many bits. BEYOND: one has not so many, or from, to or n is below 0.");
        range(33, 1, 0, 2, 0, 0, 1, 0, 1);
        range(33, 3, 0, 1, 0, 0, 1, 0, 1);
        range(33, 4, 0, 2, 0, 0, 1, 0, 0);
        refused(Check.BEYOND, 33, 0, 2, 1, 0, 2);
        refused(Check.BEYOND, 33, 0, 0, 1, 1, 2);
        refused(Check.BEYOND, 33, 0, 1, 1, 0, MOST_INT);
        refused(Check.KIND, 33, 0, -1, 2, 0, 1);
        refused(Check.KIND, 33, 0, 0, 2, -1, 1);
        refused(Check.KIND, 33, 0, 0, 2, 0, -1);
        refused(Check.KIND, 33, 0, 0, 2, 0, 41);
        refused(Check.MISSING, 33, 0, 0, 3, 0, -1);
        refused(Check.MISSING, 33, 3, -1, 0, 0, 1);
    }

    private static void loadAndJudge() {
        busy("load: BEYOND: no such sheet. MISSING.");
        range(34, 0, 0, 3, 0);
        refused(Check.MISSING, 34, 3);
        busy("judge: BEYOND: no such sheet. MISSING.");
        range(35, 0, 0, 3, 0);
        refused(Check.MISSING, 35, 3);
    }

    private static void undo() {
        full("undo: NONE: nothing is kept.");
        refused(Check.NONE, 37);
    }

    private static void count() {
        busy("count: BEYOND: another what.");
        range(39, 0, 0, 7, 0);
    }

    private static void status() {
        busy("status: BEYOND (counted from then on): another one.");
        range(40, 0, -1, 6, 0);
    }
}
