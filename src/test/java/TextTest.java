/** Promises 26 to 28: the tape and its texts. */
public final class TextTest {
    private static final Check check = new Check();

    public static void main(String[] args) {
        feed();
        wipe();
        textOfAll();
        items();
        faults();
        ninth();
        faultChangesNothing();
        carried();
        longTexts();
        check.end();
    }

    private static void feed() {
        StraySheep x = new StraySheep();
        int[] wrong = {0, -1, 5};
        for (int n : wrong) {
            check.due("26: feed of " + n, x.feed(0, n), Check.BEYOND);
        }
        check.due("26: one", x.feed(0x11223300 + 'f', 1), 1);
        check.due("26: two", x.feed(0x11220000 + ('o' << 8) + 'l', 2), 3);
        check.due("26: three", x.feed(0x11000000 + ('d' << 16) + (' ' << 8) + '1', 3), 6);
        check.due("26: four", x.feed(('2' << 24) + (' ' << 16) + (' ' << 8) + ' ', 4), 10);
        check.due("26: the highest first", x.text(), 1);
        check.due("26: so it read", x.hill(0), 12);
        StraySheep y = new StraySheep();
        for (int i = 1; i <= 29; i++) {
            check.due("26: how many", y.feed(-1, 4), 4 * i);
        }
        check.due("26: 119", y.feed(-1, 3), 119);
        check.due("26: FULL", y.feed(-1, 2), Check.FULL);
        check.due("26: BEYOND is asked first", y.feed(-1, 5), Check.BEYOND);
        check.due("26: none of it came", y.count(5), 119);
        check.due("26: 120", y.feed(-1, 1), 120);
        check.due("26: FULL", y.feed(-1, 1), Check.FULL);
    }

    private static void wipe() {
        StraySheep x = new StraySheep();
        check.due("27: empty", x.wipe(), 0);
        Check.feed(x, "fold 3");
        check.due("27: it had 6", x.wipe(), 6);
        check.due("27: empty now", x.count(5), 0);
        check.due("27: and once more", x.wipe(), 0);
        Check.feed(x, "keeper 4");
        check.due("27: what comes then", x.text(), 1);
        check.due("27: stands alone", x.hill(0), 0);
    }

    private static void textOfAll() {
        StraySheep x = new StraySheep();
        check.due("28: kinds", Check.read(x,
                "sheep at 1;ram at 2;ewe at 3;lamb at 4;orphan at 5;wanderer at 6;leader at 7 fear 99 lost 9999"), 7);
        check.due("28: the tape is empty", x.count(5), 0);
        for (int kind = 0; kind < 7; kind++) {
            check.due("28: kind", x.of(kind, 0), kind);
            check.due("28: cell", x.of(kind, 1), kind + 1);
            check.due("28: found", x.of(kind, 4), 0);
        }
        check.due("28: fear", x.of(6, 2), 99);
        check.due("28: lost", x.of(6, 3), 9999);
        check.due("28: hill", Check.read(x, "fold 15 ; keeper 8;wolf 15 pace 5"), 3);
        int[] hill = {15, 8, 15, 5};
        for (int what = 0; what < 4; what++) {
            check.due("28: hill(" + what + ")", x.hill(what), hill[what]);
        }
        check.due("28: the wolf alone", Check.read(x, "wolf 3"), 1);
        check.due("28: keeps its pace", x.hill(3), 5);
        check.due("28: item by item", Check.read(x, "fold 1;fold 2;fold 3"), 3);
        check.due("28: the last one stands", x.hill(0), 3);
    }

    private static void items() {
        String[] good = {"ewe", "ewe at 0", "ewe fear 5", "ewe lost 5", "ewe at 5 fear 5", "ewe at 5 lost 5",
            "ewe fear 5 lost 5", "ewe at 5 fear 5 lost 5", "  ewe  at  5  fear  5  lost  5  ", "ewe at5fear5lost5",
            "ewe at 0000000000000000000000015 fear 00099 lost 0009999", "ewe fear 0 lost 0"};
        int[] cell = {0, 0, 0, 0, 5, 5, 0, 5, 5, 5, 15, 0};
        int[] fear = {0, 0, 5, 0, 5, 0, 5, 5, 5, 5, 99, 0};
        int[] lost = {0, 0, 0, 5, 0, 5, 5, 5, 5, 5, 9999, 0};
        for (int i = 0; i < good.length; i++) {
            StraySheep x = new StraySheep();
            check.due("28: " + good[i], Check.read(x, good[i]), 1);
            check.due("28: cell of " + good[i], x.of(0, 1), cell[i]);
            check.due("28: fear of " + good[i], x.of(0, 2), fear[i]);
            check.due("28: lost of " + good[i], x.of(0, 3), lost[i]);
        }
    }

    private static void fault(String text, int place) {
        StraySheep x = new StraySheep();
        check.due("28: fault of '" + text + "'", Check.read(x, text), -1 - place);
        check.due("28: no finding", x.status(-1), 0);
        check.due("28: the tape is empty", x.count(5), 0);
        check.due("28: no sheep came", x.count(1), 0);
    }

    private static void faults() {
        fault("", 0);
        fault("   ", 3);
        fault(";", 0);
        fault("ewe;", 4);
        fault("ewe; ", 5);
        fault("ewe;;ewe", 4);
        fault("ewe ewe", 4);
        fault("ewes", 0);
        fault("ew", 0);
        fault("xwe", 0);
        fault("ewx", 0);
        fault("ewez", 0);
        fault("ewea", 0);
        fault("told 3", 0);
        fault("ewe`", 3);
        fault("ewe{", 3);
        fault("ewe at 1/", 8);
        fault("ewe at 1:", 8);
        fault("Ewe", 0);
        fault("eWe", 0);
        fault("ewe at", 6);
        fault("ewe at ", 7);
        fault("ewe at 16", 7);
        fault("ewe at x", 7);
        fault("ewe at ;", 7);
        fault("ewe at at", 7);
        fault("ewe 5", 4);
        fault("ewe 10000", 4);
        fault("ewe at 5 6", 9);
        fault("ewe at 5 at 6", 9);
        fault("ewe fear 5 at 5", 11);
        fault("ewe lost 5 fear 5", 11);
        fault("ewe fear 100", 9);
        fault("ewe fear", 8);
        fault("ewe lost 10000", 9);
        fault("ewe lost 99999999999999999999", 9);
        fault("ewe lost 4294967296", 9);
        fault("ewe lost", 8);
        fault("ewe at -1", 7);
        fault("ewe\tat 1", 3);
        fault("ewe\n", 3);
        fault("ewe ;fold", 9);
        fault("fold 16", 5);
        fault("fold at 3", 5);
        fault("keeper", 6);
        fault("keeper 16", 7);
        fault("keeper 5 pace 3", 9);
        fault("wolf", 4);
        fault("wolf 16", 5);
        fault("wolf 3 pace", 11);
        fault("wolf 3 pace 6", 12);
        fault("wolf pace 3", 5);
        fault("pace 3", 0);
        fault("at 3", 0);
        fault("5", 0);
        fault("ewe" + (char) 233, 3);
        fault((char) 0 + "ewe", 0);
        fault("ewe\u00ff", 3);
    }

    private static void ninth() {
        StraySheep x = new StraySheep();
        check.due("28: nine", Check.read(x, "ewe;ewe;ewe;ewe;ewe;ewe;ewe;ewe; ewe at 99"), -34);
        check.due("28: none of them came", x.count(1), 0);
        check.due("28: eight", Check.read(x, "ewe;ewe;ewe;ewe;ewe;ewe;ewe;ewe;fold 1"), 9);
        check.due("28: one more", Check.read(x, "fold 2; ram at 3"), -9);
        check.due("28: the fold stays, too", x.hill(0), 1);
        check.due("28: but other items", Check.read(x, "fold 2; keeper 3"), 2);
    }

    private static void faultChangesNothing() {
        StraySheep x = new StraySheep();
        x.sheep(0, 4);
        check.due("28: a late fault",
                Check.read(x, "fold 3;keeper 4;wolf 5 pace 2;ewe at 3 fear 5 lost 6;ewe at 16"), -1 - 60);
        int[] hill = {0, 0, -1, 1, -1};
        for (int what = 0; what < 5; what++) {
            check.due("28: hill(" + what + ") stays", x.hill(what), hill[what]);
        }
        check.due("28: so do the sheep", x.count(1), 1);
        check.due("28: a new one is as any", x.sheep(0, 9), 1);
        check.due("28: without fear", x.of(1, 2), 0);
        check.due("28: not lost", x.of(1, 3), 0);
    }

    private static void carried() {
        StraySheep x = Check.carrying(0);
        check.due("28: the keeper", Check.read(x, "keeper 9;ewe at 2"), 2);
        check.due("28: with what it carries", x.of(0, 1), 9);
        check.due("28: which it still does", x.hill(4), 0);
        check.due("28: the new one is where told", x.of(1, 1), 2);
    }

    private static void longTexts() {
        StringBuilder folds = new StringBuilder("fold1");
        while (folds.length() < 114) {
            folds.append(";fold2");
        }
        StraySheep x = new StraySheep();
        check.due("28: many items", Check.read(x, folds.toString()), 20);
        check.due("28: all of a tape", Check.read(x, " ".repeat(114) + "fold 9"), 1);
        check.due("28: so it read", x.hill(0), 9);
        check.due("28: a long number", Check.read(x, "fold " + "9".repeat(115)), -6);
        check.due("28: a long number", Check.read(x, "fold " + "0".repeat(114) + "7"), 1);
        check.due("28: so it read", x.hill(0), 7);
        check.due("28: a long word", Check.read(x, "fold 3;" + "z".repeat(113)), -8);
        check.due("28: ends too early", Check.read(x, "fold 3;" + " ".repeat(113)), -121);
    }
}
