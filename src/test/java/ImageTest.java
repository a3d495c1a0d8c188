/** Promises 36 to 40: images, counts, findings. */
public final class ImageTest {
    private static final Check check = new Check();

    public static void main(String[] args) {
        imageAndUndo();
        whatAnImageLeavesOut();
        latest();
        tear();
        count();
        status();
        statusOfEach();
        check.end();
    }

    private static StraySheep full() {
        StraySheep x = Check.carrying(1);
        Check.read(x, "fold 2;keeper 9;wolf 12 pace 3;lamb at 6 fear 7 lost 8;ewe at 13");
        x.change(2, 4, 5);
        x.hold(3, 1);
        x.hold(4, 0);
        x.seed(77);
        return x;
    }

    private static long[] allOf(StraySheep x) {
        long[] all = new long[80];
        int i = 0;
        for (int what = 0; what < 5; what++) {
            all[i++] = x.hill(what);
        }
        for (int what = 0; what < 8; what++) {
            all[i++] = what == 5 ? 0 : x.count(what);
        }
        for (int s = 0; s < x.count(1) && s < 3; s++) {
            for (int what = 0; what < 10; what++) {
                all[i++] = x.of(s, what);
            }
        }
        for (int spot = 0; spot < 10; spot++) {
            all[i++] = x.as(spot, 0);
        }
        return all;
    }

    private static void imageAndUndo() {
        StraySheep x = full();
        int hour = x.now(0);
        long[] was = allOf(x);
        check.due("36: kept", x.image(), 1);
        for (int round = 0; round < 2; round++) {
            x.go(7);
            x.nights(3);
            x.sheep(5, 5);
            x.change(0, 0, 4);
            x.change(1, 4, 44);
            x.set(0, 9);
            x.set(1, 3);
            x.hold(3, -1);
            x.hold(7, 2);
            x.seed(5);
            check.due("37: the hour", x.undo(), hour);
            long[] is = allOf(x);
            for (int i = 0; i < was.length; i++) {
                check.due("37: as it was, place " + i, is[i], was[i]);
            }
        }
        StraySheep y = new StraySheep();
        y.image();
        y.sheep(0, 5);
        y.hold(0, 0);
        y.undo();
        check.due("37: no sheep", y.count(1), 0);
        check.due("37: nor held", y.as(0, 0), Check.MISSING);
        y.sheep(3, 5);
        check.due("37: a new one is as any", y.of(0, 0), 3);
    }

    private static void whatAnImageLeavesOut() {
        StraySheep x = new StraySheep();
        x.sheep(0, 0);
        Check.feed(x, "fold");
        x.sheet(0, 8, 1);
        x.image();
        Check.feed(x, " 5");
        x.write(0, 0, 9);
        x.sheet(1, 16, 3);
        x.set(9, 9);
        check.due("37: the hour", x.undo(), 0);
        check.due("37: the tape stays", x.count(5), 6);
        check.due("37: the sheets stay", x.judge(0), 1);
        check.due("37: the sheets stay", x.judge(1), 2);
        check.due("37: no finding is taken back", x.status(0), 1);
        check.due("37: the tape reads", x.text(), 1);
        check.due("37: what was fed", x.hill(0), 5);
    }

    private static void latest() {
        StraySheep x = new StraySheep();
        x.go(1);
        x.image();
        x.go(1);
        x.image();
        x.go(1);
        check.due("37: the latest", x.undo(), 2);
        x.go(5);
        check.due("37: it stays", x.undo(), 2);
    }

    private static void tear() {
        StraySheep x = new StraySheep();
        check.due("37: nothing is kept", x.undo(), Check.NONE);
        check.due("38: nothing was", x.tear(), 0);
        x.image();
        x.go(3);
        check.due("38: something was", x.tear(), 1);
        check.due("38: nothing is", x.tear(), 0);
        check.due("38: nothing to go back to", x.undo(), Check.NONE);
        check.due("38: nothing else changes", x.now(0), 3);
        x.image();
        check.due("38: kept again", x.undo(), 3);
    }

    private static void count() {
        StraySheep x = full();
        int hour = x.now(0);
        x.change(0, 2, 30);
        x.change(0, 3, 100);
        x.change(0, 4, 1);
        x.feed(0, 3);
        int[] count = {hour, 3, 37, 6, 108, 3, 77, 2};
        for (int what = 0; what < 8; what++) {
            check.due("39: count(" + what + ")", x.count(what), count[what]);
        }
        check.due("39: count(-1)", x.count(-1), Check.BEYOND);
        check.due("39: count(8)", x.count(8), Check.BEYOND);
        x.seed(-1000003);
        int told = x.status(-1);
        check.due("39: z may be any int", x.count(6), -1000003);
        check.due("39: that is no finding", x.status(-1), told);
    }

    private static void status() {
        StraySheep x = new StraySheep();
        for (int which = -1; which < 7; which++) {
            check.due("40: none yet", x.status(which), 0);
        }
        check.due("40: another one", x.status(7), Check.BEYOND);
        check.due("40: counted from then on", x.status(0), 1);
        check.due("40: another one", x.status(-2), Check.BEYOND);
        check.due("40: counted from then on", x.status(-1), 2);
        Check.read(x, "fold 16");
        check.due("40: a fault is no finding", x.status(-1), 2);
        x.image();
        x.set(9, 9);
        x.undo();
        check.due("40: undo takes none back", x.status(0), 3);
    }

    private static void statusOfEach() {
        StraySheep x = Check.carrying(0);
        x.sheep(0, 0);
        x.hold(0, 0);
        for (int i = 0; i < 6; i++) {
            x.sheep(0, 0);
        }
        int before = x.status(-1);
        check.due("40: BEYOND", x.hill(5), Check.BEYOND);
        check.due("40: FULL", x.sheep(0, 0), Check.FULL);
        check.due("40: FULL", x.sheep(0, 0), Check.FULL);
        check.due("40: KIND", x.as(0, 1), Check.KIND);
        check.due("40: NONE", x.undo(), Check.NONE);
        check.due("40: STATE", x.change(0, 1, 1), Check.STATE);
        check.due("40: MISSING", x.judge(0), Check.MISSING);
        check.due("40: SIZE", x.sheet(0, 8, -1), Check.SIZE);
        check.due("40: in longs, too", x.odds(-1, 0, 0), Check.BEYOND);
        int[] each = {2, 2, 1, 1, 1, 1, 1};
        for (int which = 0; which < 7; which++) {
            check.due("40: status(" + which + ")", x.status(which), each[which]);
        }
        check.due("40: all", x.status(-1), before + 9);
    }
}
