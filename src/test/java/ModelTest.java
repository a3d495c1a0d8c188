import java.util.Random;

/** Long runs of drawn calls, whose every answer must be that of the model, on 400 hills. */
public final class ModelTest {
    private static final String[] WORDS = {
        "sheep", "ram", "ewe", "lamb", "orphan", "wanderer", "leader", "at", "fear", "lost",
        "fold", "keeper", "wolf", "pace", ";", "; ", "0", "5", "15", "16", "99", "100", "9999",
        "10000", "007", "  ", "x", "#", "99999999999999999999", "rams", "A"
    };

    private static final Check check = new Check();

    public static void main(String[] args) {
        int[] seen = new int[41];
        int[] findings = new int[41];
        for (int run = 0; run < 400; run++) {
            playRun(run, seen, findings);
        }
        for (int promise = 2; promise <= 40; promise++) {
            check.yes("promise " + promise + " was asked", seen[promise] > 100);
            check.yes("promise " + promise + " was answered", seen[promise] > findings[promise]);
        }
        check.end();
    }

    private static void playRun(int run, int[] seen, int[] findings) {
        Random draws = new Random(run);
        StraySheep x = new StraySheep();
        Model m = new Model();
        int i = 0;
        // What an object answers behind its 512th call is free: a text takes up to 62 calls.
        while (i < 450) {
            int promise = 2 + draws.nextInt(39);
            if (promise == 28 && draws.nextInt(5) > 0) {
                promise = 26;
            }
            if (promise == 26 && draws.nextInt(3) == 0) {
                i += feedText(x, m, draws, run);
                continue;
            }
            i++;
            int[] a = arguments(promise, draws);
            seen[promise]++;
            long want = m.call(promise, a[0], a[1], a[2], a[3], a[4]);
            findings[promise] += Check.isFinding(want) ? 1 : 0;
            check.due("run " + run + " call " + i + " promise " + promise + java.util.Arrays.toString(a),
                    Calls.call(x, promise, a), want);
        }
    }

    /** A text mostly of items that can stand, some with a token of another drawn in. */
    private static int feedText(StraySheep x, Model m, Random draws, int run) {
        StringBuilder text = new StringBuilder();
        int items = 1 + draws.nextInt(4);
        for (int i = 0; i < items; i++) {
            text.append(i == 0 ? "" : draws.nextBoolean() ? ";" : " ; ").append(item(draws));
        }
        if (draws.nextInt(3) == 0) {
            text.insert(draws.nextInt(text.length() + 1), WORDS[draws.nextInt(WORDS.length)]);
        }
        int calls = 0;
        check.due("wipe", x.wipe(), m.call(27, 0, 0, 0, 0, 0));
        for (int i = 0; i < text.length() && i < 120; i += 2) {
            int n = Math.min(2, text.length() - i);
            int v = n == 1 ? text.charAt(i) : text.charAt(i) << 8 | text.charAt(i + 1);
            check.due("feed", x.feed(v, n), m.call(26, v, n, 0, 0, 0));
            calls++;
        }
        check.due("run " + run + " text " + text, x.text(), m.call(28, 0, 0, 0, 0, 0));
        return calls + 2;
    }

    private static String item(Random draws) {
        int which = draws.nextInt(10);
        if (which == 7) {
            return "fold " + draws.nextInt(16);
        }
        if (which == 8) {
            return "keeper " + draws.nextInt(16);
        }
        if (which == 9) {
            return "wolf " + draws.nextInt(16) + (draws.nextBoolean() ? " pace " + draws.nextInt(6) : "");
        }
        return WORDS[which] + (draws.nextBoolean() ? " at " + draws.nextInt(16) : "")
                + (draws.nextBoolean() ? " fear " + draws.nextInt(100) : "")
                + (draws.nextBoolean() ? " lost " + draws.nextInt(10000) : "");
    }

    /** Mostly within what the document tells, or a step beyond; now and then anything. */
    private static int upTo(Random draws, int most) {
        int way = draws.nextInt(40);
        if (way == 0) {
            return draws.nextInt();
        }
        if (way == 1) {
            return most + 1;
        }
        if (way == 2) {
            return -1;
        }
        return draws.nextInt(most + 1);
    }

    private static int[] arguments(int promise, Random draws) {
        int sheep = upTo(draws, draws.nextBoolean() ? 7 : 2);
        int sheet = upTo(draws, 3);
        switch (promise) {
            case 2: return row(upTo(draws, 3), draws.nextInt(3) == 0 ? upTo(draws, 5) : upTo(draws, 15));
            case 3: return row(upTo(draws, 4));
            case 4: return row(upTo(draws, 6), upTo(draws, 15));
            case 5: return row(sheep, upTo(draws, 9));
            case 6: return change(sheep, draws);
            case 8: return row(upTo(draws, 15));
            case 9: return row(upTo(draws, draws.nextInt(4) == 0 ? 60 : 3));
            case 10: return row(upTo(draws, 7));
            case 11: return row(sheep, upTo(draws, 4), upTo(draws, 100));
            case 12: return row(upTo(draws, 4), upTo(draws, 100));
            case 13: return row(sheep, upTo(draws, draws.nextInt(4) == 0 ? 9999 : 4));
            case 15: return row(sheep, upTo(draws, 99));
            case 16:
            case 17: return row(upTo(draws, 40));
            case 18: return row(sheep, upTo(draws, 40));
            case 19: return row(upTo(draws, draws.nextBoolean() ? 999 : 200), upTo(draws, 40));
            case 20: return row(upTo(draws, 20));
            case 21:
            case 22: return row(sheet, sheep);
            case 23: return row(upTo(draws, 20));
            case 24: return row(sheep, upTo(draws, 15), upTo(draws, 1));
            case 25: return row(draws.nextInt());
            case 26: return row(draws.nextInt(), upTo(draws, 4));
            case 29: return row(upTo(draws, 9), draws.nextInt(4) == 0 ? -1 : sheep);
            case 30: return row(upTo(draws, 9), upTo(draws, 6));
            case 31: return row(sheet, bits(draws), upTo(draws, draws.nextBoolean() ? 40 : 5));
            case 32: return row(sheet, upTo(draws, draws.nextBoolean() ? 40 : 5), number(draws));
            case 33: return row(sheet, upTo(draws, 5), upTo(draws, 3), upTo(draws, 5), upTo(draws, 5));
            case 34:
            case 35: return row(sheet);
            case 39: return row(upTo(draws, 7));
            case 40: return row(upTo(draws, 7) - 1);
            default: return row(0);
        }
    }

    private static int[] change(int sheep, Random draws) {
        int[] most = {6, 15, 99, 9999, 9999};
        int what = upTo(draws, 4);
        int v = what >= 0 && what < 5 ? upTo(draws, most[what]) : 0;
        return row(sheep, what, what >= 3 && draws.nextInt(4) == 0 ? 9999 : v);
    }

    private static int bits(Random draws) {
        int[] some = {8, 8, 8, 16, 16, 32, 32, 0, 7, -8};
        return some[draws.nextInt(some.length)];
    }

    private static int number(Random draws) {
        int[] some = {-1, -1, -1, 255, 65535, 256, 100, 99, 0, draws.nextInt(), draws.nextInt(16),
            draws.nextInt(16), draws.nextInt(16), draws.nextInt(100)};
        return some[draws.nextInt(some.length)];
    }

    private static int[] row(int... given) {
        return java.util.Arrays.copyOf(given, 5);
    }
}
