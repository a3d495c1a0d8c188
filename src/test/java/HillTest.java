/** The document's term 1 and promises 1 to 8: the hill and its sheep, sentence by sentence. */
public final class HillTest {
    private static final Check check = new Check();

    public static void main(String[] args) {
        hillAtFirst();
        nothingAtFirst();
        eachObjectAlone();
        set();
        setWithSheepCarried();
        hill();
        newSheep();
        mostSheep();
        of();
        far();
        straysByHours();
        straysOfRams();
        straysOfEwes();
        straysOfOrphans();
        straysOfWanderers();
        fears();
        calms();
        light();
        change();
        changeOfCarried();
        drop();
        who();
        check.end();
    }

    private static void hillAtFirst() {
        check.says("CELLS 0 to 15 in a row; THE FOLD is AT one (0 at first).");
        check.due("hill(0)", new StraySheep().hill(0), 0);
        check.says("THE KEEPER is AT a CELL (0 at first), CARRIES a SHEEP or -1: none (at first).");
        check.due("hill(1)", new StraySheep().hill(1), 0);
        check.due("hill(4)", new StraySheep().hill(4), -1);
        check.says("THE WOLF is AT a CELL or -1: away (at first).");
        check.due("hill(2)", new StraySheep().hill(2), -1);
        check.says("PACE (of THE WOLF, 0 to 5; 1 at first).");
        check.due("hill(3)", new StraySheep().hill(3), 1);
    }

    private static void nothingAtFirst() {
        check.says("All as at first; no SHEEP; THE TAPE is empty, no image is kept.");
        StraySheep x = new StraySheep();
        int[] count = {0, 0, 0, 0, 0, 0, 1, 0};
        for (int what = 0; what < 8; what++) {
            check.due("count(" + what + ")", x.count(what), count[what]);
        }
        check.due("no finding yet", x.status(-1), 0);
        check.due("no sheep", x.of(0, 0), Check.BEYOND);
        check.due("the tape", x.wipe(), 0);
        check.due("nothing to go back to", x.undo(), Check.NONE);
        check.due("nothing kept", x.tear(), 0);
        check.says("SPOTS 0 to 9 hold a SHEEP or nothing (at first).");
        for (int spot = 0; spot < 10; spot++) {
            check.due("spot " + spot, x.as(spot, 0), Check.MISSING);
        }
        check.says("or MISSING (at first).");
        for (int s = 0; s < 4; s++) {
            check.due("sheet " + s, x.judge(s), Check.MISSING);
        }
    }

    private static void eachObjectAlone() {
        check.says("All as at first: whatever another object was used for");
        StraySheep used = Hills.carrying(0, 9);
        Hills.tell(used, 2, 8, 1, 2);
        used.hold(4, 0);
        used.image();
        used.nights(3);
        used.feed(1, 4);
        used.hill(9);
        StraySheep x = new StraySheep();
        check.due("sheep", x.count(1), 0);
        check.due("hours", x.count(0), 0);
        check.due("z", x.count(6), 1);
        check.due("the wolf", x.hill(2), -1);
        check.due("findings", x.status(-1), 0);
        check.due("bytes", x.wipe(), 0);
        check.due("nothing kept", x.tear(), 0);
        check.due("a sheet", x.judge(2), Check.MISSING);
        check.due("a spot", x.as(4, 0), Check.MISSING);
        check.due("bytes of the used one", used.wipe(), 4);
        check.due("hours of the used one", used.now(0), 4);
    }

    private static void set() {
        check.says("THE FOLD (what 0), THE KEEPER (1), THE WOLF (2; -1, too: away) is AT a CELL, "
                + "PACE (3) becomes v: what it was.");
        int[] least = {0, 0, -1, 0};
        int[] most = {15, 15, 15, 5};
        for (int what = 0; what < 4; what++) {
            StraySheep x = new StraySheep();
            int was = x.hill(what);
            for (int v = least[what]; v <= most[what]; v++) {
                check.due("set(" + what + ", " + v + ")", x.set(what, v), was);
                check.due("hill(" + what + ") as set", x.hill(what), v);
                was = v;
            }
            check.due("back to the least", x.set(what, least[what]), most[what]);
            for (int other = 0; other < 5; other++) {
                check.due("hill(" + other + ") behind set(" + what + ")", x.hill(other),
                        other == what ? least[what] : new StraySheep().hill(other));
            }
        }
    }

    private static void setWithSheepCarried() {
        check.says("(A SHEEP that THE KEEPER CARRIES comes with it.)");
        StraySheep x = Hills.carrying(0, 5);
        x.sheep(0, 5);
        x.set(1, 11);
        check.due("the carried one", x.of(0, 1), 11);
        check.due("one that stood there", x.of(1, 1), 5);
        x.set(1, 15);
        check.due("to the last cell", x.of(0, 1), 15);
        x.set(1, 0);
        check.due("even to the fold", x.of(0, 1), 0);
        check.due("where it stays carried", x.hill(4), 0);
        check.due("and isn't found", x.of(0, 4), 0);
        x.set(0, 7);
        check.due("not with the fold", x.of(0, 1), 0);
        x.set(2, 7);
        check.due("not with the wolf", x.of(0, 1), 0);
        x.drop();
        x.set(1, 9);
        check.due("not when it is put down", x.of(0, 1), 0);
    }

    private static void hill() {
        check.says("Of the hill: what 0 THE FOLD, 1 THE KEEPER, 2 THE WOLF, 3 PACE, "
                + "4 the SHEEP that is CARRIED (-1: none).");
        StraySheep x = Hills.carrying(1, 9);
        x.set(0, 1);
        x.set(2, 13);
        x.set(3, 4);
        int[] hill = {1, 9, 13, 4, 0};
        for (int what = 0; what < 5; what++) {
            check.due("hill(" + what + ")", x.hill(what), hill[what]);
        }
        x.drop();
        check.due("none is carried", x.hill(4), -1);
    }

    private static void newSheep() {
        check.says("A new SHEEP AT a CELL: its number.");
        StraySheep x = new StraySheep();
        int[] cells = {0, 15, 1, 14, 7, 8, 15};
        for (int kind = 0; kind < 7; kind++) {
            check.due("its number", x.sheep(kind, cells[kind]), kind);
            check.due("its kind", x.of(kind, 0), kind);
            check.due("its cell", x.of(kind, 1), cells[kind]);
        }
        check.says("with a FEAR (0 to 99; 0 at first), LOST (HOURS; 0 to 9999; 0 at first), "
                + "FOUND (how often; 0 to 9999; 0 at first).");
        for (int kind = 0; kind < 7; kind++) {
            for (int what = 2; what < 5; what++) {
                check.due("of(" + kind + ", " + what + ")", x.of(kind, what), 0);
            }
        }
    }

    private static void mostSheep() {
        check.says("SHEEP 0, 1, .. (at most 8)");
        StraySheep x = new StraySheep();
        for (int i = 0; i < 8; i++) {
            check.due("one of eight", x.sheep(0, i), i);
        }
        check.due("a ninth", x.sheep(0, 8), Check.FULL);
        check.due("still eight", x.count(1), 8);
        check.due("none AT its cell", x.who(8), 0);
    }

    private static void of() {
        check.says("Of a SHEEP: what 0 KIND, 1 CELL, 2 FEAR, 3 LOST, 4 FOUND, 5 FAR, 6 STRAYS, 7 FEARS, "
                + "8 CALMS, 9 LIGHT.");
        StraySheep x = new StraySheep();
        x.set(0, 4);
        x.sheep(0, 0);
        x.sheep(3, 15);
        int[][] set = {{0, 0, 10, 100, 1000}, {3, 15, 99, 9999, 9998}};
        for (int s = 0; s < 2; s++) {
            for (int what = 2; what < 5; what++) {
                x.change(s, what, set[s][what]);
            }
        }
        int[][] due = {{0, 0, 10, 100, 1000, 4, 1, 10, 1, 2}, {3, 15, 99, 9999, 9998, 11, -2, 25, 1, 3}};
        for (int s = 0; s < 2; s++) {
            for (int what = 0; what < 10; what++) {
                check.due("of(" + s + ", " + what + ")", x.of(s, what), due[s][what]);
            }
        }
    }

    private static void far() {
        check.says("FAR: how many CELLS one is from THE FOLD.");
        StraySheep x = new StraySheep();
        x.sheep(0, 0);
        for (int fold = 0; fold < 16; fold += 5) {
            x.set(0, fold);
            for (int cell = 0; cell < 16; cell++) {
                x.change(0, 1, cell);
                check.due("fold " + fold + ", cell " + cell, x.of(0, 5), cell < fold ? fold - cell : cell - fold);
            }
        }
    }

    private static int strays(int kind, int hour, int fear) {
        StraySheep x = new StraySheep();
        if (hour > 0) {
            x.go(hour);
        }
        x.sheep(kind, 8);
        x.change(0, 2, fear);
        return x.of(0, 6);
    }

    /** What one of a kind strays in hours 3 and 4, by fears. */
    private static void straysAre(int kind, int[] fears, int[] atMultiple, int[] between) {
        for (int i = 0; i < fears.length; i++) {
            check.due("kind " + kind + ", fear " + fears[i] + ", hour 3", strays(kind, 3, fears[i]), atMultiple[i]);
            check.due("kind " + kind + ", fear " + fears[i] + ", hour 4", strays(kind, 4, fears[i]), between[i]);
        }
    }

    private static void straysByHours() {
        check.says("SHEEP: 1, if HOUR is a multiple of 3, else 0.");
        int[] byHours = {1, 0, 0, 1, 0, 0, 1, 0};
        for (int hour = 0; hour < byHours.length; hour++) {
            check.due("hour " + hour, strays(0, hour, 0), byHours[hour]);
            check.due("hour " + hour + ", afraid", strays(0, hour, 99), byHours[hour]);
        }
    }

    private static void straysOfRams() {
        int[] fears = {0, 49, 50, 99};
        check.says("RAM: as a SHEEP, and 1, if FEAR is 50 or more.");
        straysAre(1, fears, new int[] {1, 1, 2, 2}, new int[] {0, 0, 1, 1});
        check.says("LEADER: as a RAM, less 1.");
        straysAre(6, fears, new int[] {0, 0, 1, 1}, new int[] {-1, -1, 0, 0});
    }

    private static void straysOfEwes() {
        int[] fears = {0, 29, 30, 99};
        check.says("EWE: as a SHEEP, but -1, if FEAR is 30 or more.");
        straysAre(2, fears, new int[] {1, 1, -1, -1}, new int[] {0, 0, -1, -1});
        check.says("LAMB: twice an EWE.");
        straysAre(3, fears, new int[] {2, 2, -2, -2}, new int[] {0, 0, -2, -2});
    }

    private static void straysOfOrphans() {
        check.says("ORPHAN: as a LAMB, but 0, if another SHEEP is AT its CELL.");
        straysAre(4, new int[] {0, 29, 30, 99}, new int[] {2, 2, -2, -2}, new int[] {0, 0, -2, -2});
        StraySheep x = new StraySheep();
        x.sheep(0, 9);
        x.sheep(4, 8);
        check.due("another one beside it", x.of(1, 6), 2);
        x.change(0, 1, 8);
        check.due("another one AT its cell", x.of(1, 6), 0);
        check.due("that other one", x.of(0, 6), 1);
        x.change(1, 2, 30);
        check.due("afraid", x.of(1, 6), 0);
        x.change(0, 0, 4);
        check.due("two orphans: the one", x.of(0, 6), 0);
        check.due("two orphans: the other", x.of(1, 6), 0);
        x.sheep(3, 8);
        check.due("a lamb stays for none", x.of(2, 6), 2);
    }

    private static void straysOfWanderers() {
        check.says("WANDERER: 2.");
        straysAre(5, new int[] {0, 30, 50, 99}, new int[] {2, 2, 2, 2}, new int[] {2, 2, 2, 2});
    }

    /** What of() tells of one of each kind, whatever its fear. */
    private static void ofKinds(int what, int... due) {
        for (int kind = 0; kind < 7; kind++) {
            StraySheep x = new StraySheep();
            x.sheep(kind, 8);
            check.due("kind " + kind, x.of(0, what), due[kind]);
            x.change(0, 2, 99);
            check.due("kind " + kind + ", afraid", x.of(0, what), due[kind]);
        }
    }

    private static void fears() {
        check.says("FEARS (FEAR more by THE WOLF near): SHEEP: 10. RAM: half (cut) of a SHEEP. LEADER: 0. "
                + "EWE: twice a SHEEP. LAMB: as an EWE, and 5. ORPHAN: as a LAMB. WANDERER: 0.");
        ofKinds(7, 10, 5, 20, 25, 25, 0, 0);
    }

    private static void calms() {
        check.says("CALMS (FEAR less in an HOUR): SHEEP: 1. RAM: as a SHEEP, and 1. LEADER: twice a RAM. "
                + "EWE, LAMB: as a SHEEP. ORPHAN: 0. WANDERER: as a SHEEP.");
        ofKinds(8, 1, 2, 1, 1, 0, 1, 4);
    }

    private static void light() {
        check.says("LIGHT (CELLS that THE KEEPER goes in an HOUR with it): SHEEP: 2. RAM: as a SHEEP, less 1. "
                + "LEADER: as a RAM. EWE: as a SHEEP. LAMB: as an EWE, and 1. ORPHAN: as a LAMB, and 1. "
                + "WANDERER: 1.");
        ofKinds(9, 2, 1, 2, 3, 4, 1, 1);
    }

    private static void change() {
        check.says("KIND (what 0), CELL (1), FEAR (2), LOST (3), FOUND (4) of a SHEEP becomes v: what it was.");
        int[] most = {6, 15, 99, 9999, 9999};
        for (int what = 0; what < 5; what++) {
            StraySheep x = new StraySheep();
            x.sheep(2, 5);
            x.sheep(2, 5);
            int was = x.of(0, what);
            check.due("the most of " + what, x.change(0, what, most[what]), was);
            check.due("what it is", x.of(0, what), most[what]);
            check.due("another one stays", x.of(1, what), was);
            check.due("the same once more", x.change(0, what, most[what]), most[what]);
            check.due("the least of " + what, x.change(0, what, 0), most[what]);
            check.due("what it is", x.of(0, what), 0);
            x.change(0, what, was);
            for (int other = 0; other < 10; other++) {
                check.due("all as it was, of " + other, x.of(0, other), x.of(1, other));
            }
        }
    }

    private static void changeOfCarried() {
        check.says("STATE: CELL of that which is CARRIED.");
        StraySheep x = Hills.carrying(0, 8);
        x.sheep(0, 8);
        check.due("to another cell", x.change(0, 1, 2), Check.STATE);
        check.due("to the cell where it is", x.change(0, 1, 8), Check.STATE);
        check.due("it stayed", x.of(0, 1), 8);
        check.due("that of another one", x.change(1, 1, 2), 8);
        check.due("its kind", x.change(0, 0, 3), 0);
        check.due("its fear", x.change(0, 2, 7), 0);
        check.due("how long it is lost", x.change(0, 3, 9), 1);
        check.due("how often it was found", x.change(0, 4, 3), 0);
        x.drop();
        check.due("its cell, when it is put down", x.change(0, 1, 2), 8);
    }

    private static void drop() {
        check.says("THE KEEPER puts down what it CARRIES where it is: which SHEEP that was (it isn't FOUND by that).");
        StraySheep x = Hills.carrying(0, 8);
        x.change(0, 2, 40);
        check.due("which it was", x.drop(), 0);
        check.due("none is carried", x.hill(4), -1);
        check.due("its cell", x.of(0, 1), 8);
        check.due("its fear", x.of(0, 2), 40);
        check.due("how long it is lost", x.of(0, 3), 1);
        check.due("how often it was found", x.of(0, 4), 0);
        StraySheep y = Hills.carrying(0, 0);
        check.due("AT the fold", y.drop(), 0);
        check.due("it isn't found there, either", y.of(0, 4), 0);
        check.says("NONE: it CARRIES none.");
        check.due("nothing to put down", new StraySheep().drop(), Check.NONE);
        check.due("only once", x.drop(), Check.NONE);
    }

    private static void who() {
        check.says("SHEEP AT a CELL, as a set.");
        StraySheep x = Hills.carrying(0, 15);
        check.due("the carried one, too", x.who(15), 1);
        int[] cells = {0, 15, 0, 0, 7, 15, 15};
        for (int cell : cells) {
            x.sheep(0, cell);
        }
        check.due("the first cell", x.who(0), 2 + 8 + 16);
        check.due("the last cell", x.who(15), 1 + 4 + 64 + 128);
        check.due("one", x.who(7), 32);
        check.due("none", x.who(8), 0);
        StraySheep y = new StraySheep();
        check.due("there are none", y.who(0), 0);
        for (int i = 0; i < 8; i++) {
            y.sheep(0, 3);
        }
        check.due("all eight", y.who(3), 255);
    }
}
