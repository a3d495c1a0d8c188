/** The document's texts (term 3) and promises 26 to 28: the tape and what stands on it. */
public final class TextTest {
    private static final Check check = new Check();

    public static void main(String[] args) {
        feed();
        fullTape();
        wipe();
        bytes();
        words();
        longestWords();
        numbers();
        blanks();
        itemsAndSigns();
        kinds();
        sheepItems();
        sheepFaults();
        foldAndKeeper();
        wolf();
        endsTooEarly();
        emptyTape();
        ninth();
        itemByItem();
        faultChangesNothing();
        faultIsNoFinding();
        carried();
        longTexts();
        check.end();
    }

    private static void fault(String text, int place) {
        StraySheep x = new StraySheep();
        check.due("'" + text + "'", Hills.read(x, text), -1 - place);
    }

    private static StraySheep stands(String text, int items) {
        StraySheep x = new StraySheep();
        check.due("'" + text + "'", Hills.read(x, text), items);
        return x;
    }

    private static void feed() {
        check.says("THE TAPE gets the n lowest bytes of a number behind it, the highest of these first (n 1 to 4): "
                + "how many it has.");
        StraySheep x = new StraySheep();
        check.due("one", x.feed(0x11223300 + 'f', 1), 1);
        check.due("two", x.feed(0x11220000 + ('o' << 8) + 'l', 2), 3);
        check.due("three", x.feed(0x11000000 + ('d' << 16) + (' ' << 8) + '1', 3), 6);
        check.due("four", x.feed(('2' << 24) + (' ' << 16) + (';' << 8) + ' ', 4), 10);
        check.due("four", x.feed(('f' << 24) + ('o' << 16) + ('l' << 8) + 'd', 4), 14);
        check.due("two", x.feed((' ' << 8) + '3', 2), 16);
        check.due("the highest first", x.text(), 2);
        check.due("so it read", x.hill(0), 3);
        check.due("bytes of 255", x.feed(-1, 4), 4);
        check.due("none of them begins a token", x.text(), -1);
        check.due("a byte of 0", x.feed(256, 1), 1);
        check.due("it begins no token", x.text(), -1);
    }

    private static void fullTape() {
        check.says("THE TAPE (bytes, at most 120): FULL.");
        StraySheep x = new StraySheep();
        for (int i = 1; i <= 29; i++) {
            check.due("four", x.feed(' ' << 24 | ' ' << 16 | ' ' << 8 | ' ', 4), 4 * i);
        }
        check.due("117", x.feed(' ', 1), 117);
        check.due("to 121", x.feed(' ', 4), Check.FULL);
        check.due("to 120", x.feed(' ' << 16 | ' ' << 8 | ' ', 3), 120);
        for (int n = 1; n <= 4; n++) {
            check.due("to " + (120 + n), x.feed(' ', n), Check.FULL);
        }
        check.due("none of it came", x.count(5), 120);
        check.due("120 blanks", x.text(), -121);
        check.due("room again", x.feed(' ', 4), 4);
    }

    private static void wipe() {
        check.says("THE TAPE is empty: how many it had.");
        StraySheep x = new StraySheep();
        check.due("none", x.wipe(), 0);
        Hills.feed(x, "fold 3");
        check.due("six", x.wipe(), 6);
        check.due("none now", x.count(5), 0);
        check.due("none once more", x.wipe(), 0);
        Hills.feed(x, "keeper 4");
        check.due("what comes then", x.text(), 1);
        check.due("stands alone", x.hill(0), 0);
        Hills.feed(x, " ".repeat(120));
        check.due("120", x.wipe(), 120);
        check.due("room again", x.feed(0, 4), 4);
    }

    /** Whether a byte may stand behind an item: only a blank, or a sign that then ends too early. */
    private static void bytes() {
        check.says("(.. a byte that begins no TOKEN ..)");
        for (int b = 0; b < 256; b++) {
            StraySheep x = new StraySheep();
            Hills.feed(x, "fold 3 ");
            x.feed(b, 1);
            boolean isDigit = b >= '0' && b <= '9';
            int due = b == ' ' ? 1 : b == ';' ? -1 - 8 : -1 - 7;
            check.due("byte " + b + " behind an item", x.text(), due);
            x.feed(b, 1);
            Hills.feed(x, "wolf 3");
            int begin = b == ' ' ? 1 : -1;
            check.due("byte " + b + " ahead of an item", x.text(), begin);
            Hills.feed(x, "fold 1");
            x.feed(b, 1);
            int behindNumber = b == ' ' ? 1 : b == ';' ? -1 - 7 : b <= '5' && isDigit ? 1 : isDigit ? -1 - 5 : -1 - 6;
            check.due("byte " + b + " behind a number", x.text(), behindNumber);
        }
    }

    private static void words() {
        check.says("WORDS (letters a to z); another WORD");
        fault("goat", 0);
        fault("Ewe", 0);
        fault("eWe", 0);
        fault("ewE", 0);
        fault("ew", 0);
        fault("xwe", 0);
        fault("ewx", 0);
        fault("at 3", 0);
        fault("fear 3", 0);
        fault("lost 3", 0);
        fault("pace 3", 0);
        fault("fold 3;told 3", 7);
        fault("fold 3;z", 7);
        fault("fold 3;a", 7);
        fault("ewe a 3", 4);
        fault("ewe on 3", 4);
        fault("wolf 3 fear 3", 7);
        fault("fold 3 pace 3", 7);
    }

    private static void longestWords() {
        check.says("TOKENS, each as long as can be: WORDS");
        fault("ewes", 0);
        fault("ewea", 0);
        fault("ewez", 0);
        fault("ewe`", 3);
        fault("ewe{", 3);
        fault("eweat 3", 0);
        fault("sheepram", 0);
        fault("ewe att 3", 4);
        fault("ewe atfear 3", 4);
        fault("ewe at 3 fears 3", 9);
        fault("ewe at 3 losts 3", 9);
        fault("folds 3", 0);
        fault("keepers 3", 0);
        fault("wolfs 3", 0);
        fault("wolf 3 paces 3", 7);
        stands("ewe at3fear3lost3", 1);
    }

    private static void numbers() {
        check.says("NUMBERS (digits, 9999 at most); a NUMBER that isn't as told");
        check.due("9999", stands("ewe lost 9999", 1).of(0, 3), 9999);
        fault("ewe lost 10000", 9);
        fault("ewe lost 99990", 9);
        fault("ewe lost 2147483648", 9);
        fault("ewe lost 4294967296", 9);
        fault("ewe lost 4294967297", 9);
        fault("ewe lost 18446744073709551617", 9);
        fault("ewe lost 99999999999999999999", 9);
        check.due("many zeros ahead", stands("ewe lost 00000000000000000000000000009999", 1).of(0, 3), 9999);
        check.due("0 told often", stands("ewe lost 0000000", 1).of(0, 3), 0);
        fault("ewe lost 000000000000000000010000", 9);
        fault("5", 0);
        fault("10000", 0);
        fault("ewe 5", 4);
        fault("ewe 10000", 4);
        fault("ewe at -1", 7);
        fault("ewe at +1", 7);
        fault("ewe at 1.5", 8);
        fault("ewe at 1 5", 9);
        fault("ewe at 1e", 8);
        fault("ewe at 1/", 8);
        fault("ewe at 1:", 8);
    }

    private static void blanks() {
        check.says("blanks may stand between.");
        StraySheep x = stands("ewe  at   5    fear 6   lost  7  ;  fold   8", 2);
        check.due("cell", x.of(0, 1), 5);
        check.due("fear", x.of(0, 2), 6);
        check.due("lost", x.of(0, 3), 7);
        check.due("fold", x.hill(0), 8);
        stands("ewe;fold 8", 2);
        stands("ewe ;fold 8", 2);
        stands("ewe; fold 8", 2);
        stands("fold8", 1);
        stands(" fold 8", 1);
        stands("fold 8 ", 1);
        fault("fo ld 8", 0);
        fault("fold 1 5", 7);
        fault("ewe\tat 1", 3);
        fault("ewe\n", 3);
        fault("ewe\r", 3);
        fault("ewe" + (char) 160 + "at 1", 3);
    }

    private static void itemsAndSigns() {
        check.says("TEXT: ITEM { ; ITEM }.");
        stands("ewe", 1);
        stands("ewe;ewe", 2);
        stands("ewe;fold 1;wolf 2;keeper 3;ram", 5);
        fault(";", 0);
        fault(";ewe", 0);
        fault("ewe;;ewe", 4);
        fault("ewe ewe", 4);
        fault("fold 3 fold 3", 7);
        fault("fold 3,fold 3", 6);
        fault("fold 3:fold 3", 6);
    }

    private static void kinds() {
        check.says("ITEM: sheep, ram, ewe, lamb, orphan, wanderer or leader: a new one");
        StraySheep x = stands("sheep;ram;ewe;lamb;orphan;wanderer;leader", 7);
        for (int kind = 0; kind < 7; kind++) {
            check.due("kind", x.of(kind, 0), kind);
            check.due("found", x.of(kind, 4), 0);
        }
        check.due("so many", x.count(1), 7);
    }

    private static void sheepItems() {
        check.says("perhaps at and a NUMBER (a CELL; 0 without), perhaps fear and a NUMBER (0 to 99), "
                + "perhaps lost and a NUMBER (0 to 9999): a new one");
        String[] texts = {"ewe", "ewe at 0", "ewe at 15", "ewe fear 0", "ewe fear 99", "ewe lost 0", "ewe lost 9999",
            "ewe at 5 fear 6", "ewe at 5 lost 7", "ewe fear 6 lost 7", "ewe at 5 fear 6 lost 7"};
        int[][] due = {{0, 0, 0}, {0, 0, 0}, {15, 0, 0}, {0, 0, 0}, {0, 99, 0}, {0, 0, 0}, {0, 0, 9999},
            {5, 6, 0}, {5, 0, 7}, {0, 6, 7}, {5, 6, 7}};
        for (int i = 0; i < texts.length; i++) {
            StraySheep x = stands(texts[i], 1);
            for (int what = 1; what <= 3; what++) {
                check.due("of(0, " + what + ") of " + texts[i], x.of(0, what), due[i][what - 1]);
            }
        }
    }

    private static void sheepFaults() {
        check.says("FAULT: the place (from 0) of the first byte of the first TOKEN that can't stand there: of sheep");
        fault("ewe at 16", 7);
        fault("ewe at x", 7);
        fault("ewe at ;", 7);
        fault("ewe at at", 7);
        fault("ewe fear 100", 9);
        fault("ewe fear fear", 9);
        fault("ewe at 5 fear 100", 14);
        fault("ewe lost 10000", 9);
        fault("ewe lost lost", 9);
        fault("ewe at 5 fear 6 lost 10000", 21);
        fault("ewe at 5 at 6", 9);
        fault("ewe fear 5 at 5", 11);
        fault("ewe fear 5 fear 5", 11);
        fault("ewe lost 5 fear 5", 11);
        fault("ewe lost 5 at 5", 11);
        fault("ewe lost 5 lost 5", 11);
        fault("ewe fear 5 at 16", 11);
        fault("ewe at 16 #", 7);
        fault("ewe at 5 # at 16", 9);
    }

    private static void foldAndKeeper() {
        check.says("fold, a NUMBER (a CELL); keeper, a NUMBER (a CELL)");
        for (int cell = 0; cell < 16; cell++) {
            check.due("the fold", stands("fold " + cell, 1).hill(0), cell);
            check.due("the keeper", stands("keeper " + cell, 1).hill(1), cell);
        }
        fault("fold 16", 5);
        fault("fold at 3", 5);
        fault("fold ; keeper 3", 5);
        fault("keeper 16", 7);
        fault("keeper at 3", 7);
        fault("keeper 5 pace 3", 9);
        fault("keeper 5 fear 3", 9);
    }

    private static void wolf() {
        check.says("wolf, a NUMBER (a CELL), perhaps pace and a NUMBER (0 to 5).");
        for (int cell = 0; cell < 16; cell++) {
            check.due("the wolf", stands("wolf " + cell, 1).hill(2), cell);
        }
        for (int pace = 0; pace <= 5; pace++) {
            check.due("its pace", stands("wolf 15 pace " + pace, 1).hill(3), pace);
        }
        StraySheep x = stands("wolf 3", 1);
        check.due("pace without", x.hill(3), 1);
        x.set(3, 4);
        check.due("once more", Hills.read(x, "wolf 5"), 1);
        check.due("pace without", x.hill(3), 4);
        fault("wolf 16", 5);
        fault("wolf 3 pace 6", 12);
        fault("wolf pace 3", 5);
        fault("wolf 3 pace pace", 12);
        fault("wolf 3 pace 3 pace 3", 14);
        fault("wolf 3 pace 3 4", 14);
        fault("wolf 16 pace 6", 5);
    }

    private static void endsTooEarly() {
        check.says("or how many bytes there are if it ends too early.");
        fault("ewe;", 4);
        fault("ewe; ", 5);
        fault("ewe at", 6);
        fault("ewe at ", 7);
        fault("ewe fear", 8);
        fault("ewe at 5 fear", 13);
        fault("ewe lost", 8);
        fault("ewe at 5 fear 6 lost   ", 23);
        fault("fold", 4);
        fault("fold 3;fold", 11);
        fault("keeper", 6);
        fault("keeper  ", 8);
        fault("wolf", 4);
        fault("wolf 3 pace", 11);
        fault("wolf 3 pace ", 12);
    }

    private static void emptyTape() {
        check.says("how many bytes there are if it ends too early: of an empty TAPE, and of blanks alone");
        check.due("no byte", new StraySheep().text(), -1);
        fault(" ", 1);
        fault("   ", 3);
    }

    private static void ninth() {
        check.says("(.. the WORD of a 9th SHEEP: its own)");
        fault("ewe;ewe;ewe;ewe;ewe;ewe;ewe;ewe;ewe", 32);
        fault("ewe;ewe;ewe;ewe;ewe;ewe;ewe;ewe; ram at 99", 33);
        fault("ewe;ewe;ewe;ewe;ewe;ewe;ewe;ewe;rams", 32);
        StraySheep x = stands("ewe;ewe;ewe;ewe;ewe;ewe;ewe;ewe;fold 1", 9);
        check.due("eight", x.count(1), 8);
        check.due("one more than there are already", Hills.read(x, "fold 2; ram at 3"), -1 - 8);
        check.due("the fold stays, too", x.hill(0), 1);
        check.due("but other items", Hills.read(x, "fold 2; keeper 3"), 2);
        StraySheep y = stands("ram;ram;ram;ram;ram", 5);
        check.due("four to five", Hills.read(y, "ewe;ewe;ewe;ewe"), -1 - 12);
        check.due("three to five", Hills.read(y, "ewe;ewe;ewe"), 3);
        check.due("the last one's number", y.of(7, 0), 2);
    }

    private static void itemByItem() {
        check.says("THE TAPE is a TEXT, and empty then; all that it tells is so, item by item: how many ITEMS.");
        StraySheep x = stands("fold 1;keeper 9;fold 3;wolf 5 pace 2;wolf 6;keeper 4;fold 2", 7);
        check.due("the tape", x.count(5), 0);
        int[] hill = {2, 4, 6, 2, -1};
        for (int what = 0; what < 5; what++) {
            check.due("hill(" + what + "), told last", x.hill(what), hill[what]);
        }
        StringBuilder folds = new StringBuilder("fold1");
        while (folds.length() < 114) {
            folds.append(";fold2");
        }
        check.due("the fold", stands(folds.toString(), 20).hill(0), 2);
    }

    private static void faultChangesNothing() {
        check.says("With a FAULT: -1 less the FAULT (nothing changes but that THE TAPE is empty; no finding).");
        StraySheep x = new StraySheep();
        x.sheep(0, 4);
        check.due("a late fault", Hills.read(x, "fold 3;keeper 4;wolf 5 pace 2;ewe at 3 fear 5 lost 6;ewe at 16"), -61);
        int[] hill = {0, 0, -1, 1, -1};
        for (int what = 0; what < 5; what++) {
            check.due("hill(" + what + ") stays", x.hill(what), hill[what]);
        }
        check.due("the tape", x.count(5), 0);
        check.due("so do the sheep", x.count(1), 1);
        check.due("where they were", x.of(0, 1), 4);
        check.due("a new one is as any", x.sheep(0, 9), 1);
        check.due("without fear", x.of(1, 2), 0);
        check.due("not lost", x.of(1, 3), 0);
        check.due("a fault behind an item", Hills.read(x, "fold 3 3"), -8);
        check.due("the fold stays", x.hill(0), 0);
        check.due("a fault in a wolf's pace", Hills.read(x, "wolf 3 pace 6"), -13);
        check.due("the wolf stays away", x.hill(2), -1);
    }

    private static void faultIsNoFinding() {
        check.says("text: no finding");
        String[] texts = {"", " ", "goat", "ewe at 16", "ewe;ewe;ewe;ewe;ewe;ewe;ewe;ewe;ewe", "fold"};
        StraySheep x = new StraySheep();
        for (String text : texts) {
            check.yes("a fault", Hills.read(x, text) < 0);
            check.due("findings behind '" + text + "'", x.status(-1), 0);
        }
    }

    private static void carried() {
        check.says("(THE KEEPER with what it CARRIES)");
        StraySheep x = Hills.carrying(0, 5);
        check.due("the keeper", Hills.read(x, "keeper 9;ewe at 2;fold 3"), 3);
        check.due("with what it carries", x.of(0, 1), 9);
        check.due("which it still does", x.hill(4), 0);
        check.due("the new one is where told", x.of(1, 1), 2);
        check.due("even to the fold", Hills.read(x, "keeper 3"), 1);
        check.due("which it still does", x.hill(4), 0);
        check.due("there", x.of(0, 1), 3);
    }

    private static void longTexts() {
        check.says("A TEXT is read from THE TAPE (bytes, at most 120).");
        check.due("all of a tape", stands(" ".repeat(114) + "fold 9", 1).hill(0), 9);
        check.due("a long number", stands("fold " + "0".repeat(114) + "7", 1).hill(0), 7);
        fault("fold " + "9".repeat(115), 5);
        fault("fold 3;" + "z".repeat(113), 7);
        fault("fold 3;" + " ".repeat(113), 120);
        fault(" ".repeat(119) + ";", 119);
        fault(" ".repeat(116) + "fold", 120);
    }
}
