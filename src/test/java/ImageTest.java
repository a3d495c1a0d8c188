import java.util.ArrayList;
import java.util.List;

/** Promises 36 to 40: images, counts, findings. */
public final class ImageTest {
    private static final Check check = new Check();

    public static void main(String[] args) {
        imageAndUndo();
        imageOfNothing();
        leavesOutTape();
        leavesOutSheets();
        latest();
        undoNone();
        tear();
        count();
        countOfZ();
        statusAtFirst();
        statusOfEach();
        statusCountsItself();
        statusAndUndo();
        noFindings();
        longestUse();
        check.end();
    }

    /** Eight sheep, the first of them carried. */
    private static StraySheep full() {
        StraySheep x = Hills.carrying(1, 12);
        Hills.read(x, "fold 2;keeper 9;wolf 12 pace 3;lamb at 6 fear 7 lost 8;ewe at 13;ewe;ewe;ewe;ewe;ram at 15 "
                + "fear 60");
        x.change(7, 3, 70);
        x.change(7, 4, 5);
        x.hold(0, 7);
        x.hold(3, 1);
        x.hold(9, 0);
        x.seed(77);
        return x;
    }

    /** All that an image keeps; a spot's answer may be a finding. */
    private static List<Integer> allOf(StraySheep x) {
        List<Integer> all = new ArrayList<>();
        for (int what = 0; what < 5; what++) {
            all.add(x.hill(what));
        }
        for (int what = 0; what < 8; what++) {
            if (what != 5) {
                all.add(x.count(what));
            }
        }
        int sheep = x.count(1);
        for (int s = 0; s < sheep; s++) {
            for (int what = 0; what < 5; what++) {
                all.add(x.of(s, what));
            }
        }
        for (int spot = 0; spot < 10; spot++) {
            all.add(x.as(spot, 0));
        }
        return all;
    }

    private static void changeAll(StraySheep x) {
        x.go(7);
        x.nights(3);
        x.drop();
        for (int s = 0; s < 8; s += 7) {
            x.change(s, 0, 4);
            x.change(s, 1, 11);
            x.change(s, 2, 55);
            x.change(s, 3, 555);
            x.change(s, 4, 5555);
        }
        x.set(0, 9);
        x.set(1, 3);
        x.set(2, -1);
        x.set(3, 0);
        x.hold(0, -1);
        x.hold(3, 2);
        x.hold(7, 2);
        x.hold(9, 2);
        x.seed(5);
    }

    private static void imageAndUndo() {
        check.says("All but THE TAPE and SHEETS is kept: 1. It becomes what was kept latest (which stays): HOUR.");
        StraySheep x = full();
        List<Integer> was = allOf(x);
        check.due("image()", x.image(), 1);
        for (int round = 0; round < 2; round++) {
            changeAll(x);
            check.yes("all else now", !allOf(x).equals(was));
            check.due("undo()", x.undo(), 1);
            List<Integer> is = allOf(x);
            check.due("how much there is", is.size(), was.size());
            for (int i = 0; i < was.size() && i < is.size(); i++) {
                check.due("as it was, place " + i, is.get(i), was.get(i));
            }
        }
    }

    private static void imageOfNothing() {
        check.says("image: All .. is kept: no SHEEP, and nothing in SPOTS");
        StraySheep x = new StraySheep();
        x.image();
        x.sheep(0, 5);
        x.change(0, 2, 50);
        x.hold(0, 0);
        check.due("undo()", x.undo(), 0);
        check.due("no sheep", x.count(1), 0);
        check.due("none is held", x.count(7), 0);
        check.due("nor found in a spot", x.as(0, 0), Check.MISSING);
        check.due("a new one", x.sheep(3, 5), 0);
        check.due("is as any", x.of(0, 0), 3);
        check.due("without fear", x.of(0, 2), 0);
    }

    private static void leavesOutTape() {
        check.says("All but THE TAPE .. is kept");
        StraySheep x = new StraySheep();
        Hills.feed(x, "fold");
        x.image();
        Hills.feed(x, " 5");
        x.undo();
        check.due("the tape stays", x.count(5), 6);
        check.due("it reads", x.text(), 1);
        check.due("what was fed", x.hill(0), 5);
        check.due("and the image stays", x.undo(), 0);
        check.due("without that", x.hill(0), 0);
        check.due("nor does the tape come back", x.count(5), 0);
    }

    private static void leavesOutSheets() {
        check.says("All but .. SHEETS is kept");
        StraySheep x = new StraySheep();
        x.sheep(0, 0);
        x.sheet(0, 8, 1);
        x.sheet(2, 8, 1);
        x.image();
        x.write(0, 0, 9);
        x.sheet(1, 16, 3);
        x.sheet(2, 0, 0);
        x.undo();
        check.due("a number stays as written", x.judge(0), 1);
        check.due("a sheet that came stays", x.judge(1), 2);
        check.due("a sheet that went stays away", x.judge(2), Check.MISSING);
    }

    private static void latest() {
        check.says("It becomes what was kept latest (which stays): HOUR.");
        StraySheep x = new StraySheep();
        x.go(1);
        x.image();
        x.go(1);
        check.due("kept again", x.image(), 1);
        x.go(1);
        check.due("the latest", x.undo(), 2);
        x.go(5);
        check.due("it stays", x.undo(), 2);
        check.due("at once again", x.undo(), 2);
    }

    private static void undoNone() {
        check.says("undo: NONE: nothing is kept.");
        StraySheep x = new StraySheep();
        x.go(3);
        check.due("nothing yet", x.undo(), Check.NONE);
        check.due("the hour stays", x.now(0), 3);
        x.image();
        x.tear();
        x.go(1);
        check.due("no longer", x.undo(), Check.NONE);
        check.due("the hour stays", x.now(0), 4);
    }

    private static void tear() {
        check.says("Nothing is kept: 1 if something was, else 0.");
        StraySheep x = new StraySheep();
        check.due("nothing yet", x.tear(), 0);
        x.image();
        x.image();
        x.go(3);
        check.due("something", x.tear(), 1);
        check.due("nothing", x.tear(), 0);
        check.due("nothing else changes", x.now(0), 3);
        x.image();
        x.undo();
        check.due("something, gone back to or not", x.tear(), 1);
        x.image();
        check.due("kept again", x.undo(), 3);
    }

    private static void count() {
        check.says("0 HOUR, 1 SHEEP, 2 FEAR of all together, 3 FOUND of all together, 4 LOST of all together, "
                + "5 bytes of THE TAPE, 6 z, 7 SPOTS that hold something.");
        StraySheep x = new StraySheep();
        x.go(4);
        for (int s = 0; s < 3; s++) {
            x.sheep(s, s);
            x.change(s, 2, 10 + s);
            x.change(s, 3, 100 + s);
            x.change(s, 4, 1000 + s);
        }
        x.feed(0, 3);
        x.seed(77);
        x.hold(0, 2);
        x.hold(9, 2);
        int[] count = {4, 3, 33, 3003, 303, 3, 77, 2};
        for (int what = 0; what < 8; what++) {
            check.due("count(" + what + ")", x.count(what), count[what]);
        }
        StraySheep y = new StraySheep();
        for (int i = 0; i < 8; i++) {
            y.sheep(0, 15);
            y.change(i, 2, 99);
            y.change(i, 3, 9999);
            y.change(i, 4, 9999);
        }
        for (int spot = 0; spot < 10; spot++) {
            y.hold(spot, 7);
        }
        Hills.feed(y, " ".repeat(120));
        int[] most = {0, 8, 792, 79992, 79992, 120, 1, 10};
        for (int what = 0; what < 8; what++) {
            check.due("the most of count(" + what + ")", y.count(what), most[what]);
        }
    }

    private static void countOfZ() {
        check.says("What seed() and count(6) tell, z, may be any int: that is no finding.");
        StraySheep x = new StraySheep();
        for (int z = -1000008; z <= -1000000; z++) {
            x.seed(z);
            check.due("count(6)", x.count(6), z);
        }
        check.due("findings", x.status(-1), 0);
    }

    private static void statusAtFirst() {
        check.says("How many acts answered a finding ever: at first none");
        StraySheep x = new StraySheep();
        for (int which = -1; which < 7; which++) {
            check.due("status(" + which + ")", x.status(which), 0);
        }
    }

    private static void statusOfEach() {
        check.says("which -1: all, 0 to 6: BEYOND to SIZE. FINDINGS: LOW is -1000001; LOW BEYOND, LOW - 1 FULL, "
                + "LOW - 2 KIND, LOW - 3 NONE, LOW - 4 STATE, LOW - 5 MISSING, LOW - 6 SIZE (in longs, too).");
        StraySheep x = Hills.carrying(0, 9);
        for (int i = 0; i < 7; i++) {
            x.sheep(0, 0);
        }
        x.hold(0, 0);
        check.due("BEYOND", x.hill(5), -1000001);
        check.due("BEYOND, a long", x.odds(-1, 0, 0), -1000001L);
        for (int i = 0; i < 3; i++) {
            check.due("FULL", x.sheep(0, 0), -1000002);
        }
        for (int i = 0; i < 4; i++) {
            check.due("KIND", x.as(0, 1), -1000003);
        }
        for (int i = 0; i < 5; i++) {
            check.due("NONE", x.undo(), -1000004);
        }
        for (int i = 0; i < 6; i++) {
            check.due("STATE", x.change(0, 1, 1), -1000005);
        }
        for (int i = 0; i < 7; i++) {
            check.due("MISSING", x.judge(0), -1000006);
        }
        for (int i = 0; i < 8; i++) {
            check.due("SIZE", x.sheet(0, 8, -1), -1000007);
        }
        for (int which = 0; which < 7; which++) {
            check.due("status(" + which + ")", x.status(which), 2 + which);
        }
        check.due("all", x.status(-1), 2 + 3 + 4 + 5 + 6 + 7 + 8);
    }

    private static void statusCountsItself() {
        check.says("BEYOND (counted from then on): another one.");
        int[] others = {7, -2, Integer.MAX_VALUE, Integer.MIN_VALUE};
        StraySheep x = new StraySheep();
        for (int i = 0; i < others.length; i++) {
            check.due("status(" + others[i] + ")", x.status(others[i]), Check.BEYOND);
            check.due("BEYOND", x.status(0), 1 + i);
            check.due("all", x.status(-1), 1 + i);
        }
    }

    private static void statusAndUndo() {
        check.says("How many acts answered a finding ever (undo() takes none back)");
        StraySheep x = new StraySheep();
        x.hill(9);
        x.image();
        x.hill(9);
        x.judge(0);
        check.due("all", x.status(-1), 3);
        x.undo();
        check.due("all, behind undo()", x.status(-1), 3);
        check.due("BEYOND", x.status(0), 2);
        check.due("MISSING", x.status(5), 1);
        x.tear();
        x.undo();
        check.due("all, with an undo() that is refused", x.status(-1), 4);
    }

    private static void noFindings() {
        check.says("FINDINGS are answers below -1000000: -1 and 0 are none");
        StraySheep x = new StraySheep();
        check.due("none carried", x.hill(4), -1);
        check.due("away", x.hill(2), -1);
        check.due("none sought", x.now(5), -1);
        check.due("none afraid", x.now(7), -1);
        check.due("none carried later", x.later(4, 3), -1);
        check.due("a fault", x.text(), -1);
        check.due("nothing torn", x.tear(), 0);
        check.due("findings", x.status(-1), 0);
    }

    private static void longestUse() {
        check.says("An object is used for at most 512 calls after it has been made");
        StraySheep x = new StraySheep();
        for (int call = 1; call <= 511; call++) {
            check.due("call " + call, x.go(0), Check.BEYOND);
        }
        check.due("the 512th call", x.status(0), 511);
        StraySheep y = new StraySheep();
        for (int call = 1; call <= 512; call++) {
            check.due("call " + call, y.seed(call + 1), call);
        }
        StraySheep z = new StraySheep();
        for (int call = 1; call <= 511; call++) {
            z.go(60);
        }
        check.due("behind 511 times 60 hours", z.now(0), 30660);
    }
}
