import java.util.ArrayList;
import java.util.Arrays;
import java.util.List;
import java.util.regex.Matcher;
import java.util.regex.Pattern;

/**
 * The document told a second time, in another way: kinds as classes under one another, worlds
 * that are copied whole, texts read by patterns. Slow and careless of room; it may throw.
 */
final class Model {
    private static final class Finding extends RuntimeException {
        private static final long serialVersionUID = 1L;
        final int which;

        Finding(int which) {
            this.which = which;
        }
    }

    private static final int BEYOND = 0, FULL = 1, KIND = 2, NONE = 3, STATE = 4, MISSING = 5, SIZE = 6;

    static class Sheep {
        int strays(World w, Beast b) {
            return w.hour % 3 == 0 ? 1 : 0;
        }

        int fears() {
            return 10;
        }

        int calms() {
            return 1;
        }

        int light() {
            return 2;
        }
    }

    static class Ram extends Sheep {
        @Override
        int strays(World w, Beast b) {
            return super.strays(w, b) + (b.fear >= 50 ? 1 : 0);
        }

        @Override
        int fears() {
            return super.fears() / 2;
        }

        @Override
        int calms() {
            return super.calms() + 1;
        }

        @Override
        int light() {
            return super.light() - 1;
        }
    }

    static class Leader extends Ram {
        @Override
        int strays(World w, Beast b) {
            return super.strays(w, b) - 1;
        }

        @Override
        int fears() {
            return 0;
        }

        @Override
        int calms() {
            return 2 * super.calms();
        }
    }

    static class Ewe extends Sheep {
        @Override
        int strays(World w, Beast b) {
            return b.fear >= 30 ? -1 : super.strays(w, b);
        }

        @Override
        int fears() {
            return 2 * super.fears();
        }
    }

    static class Lamb extends Ewe {
        @Override
        int strays(World w, Beast b) {
            return 2 * super.strays(w, b);
        }

        @Override
        int fears() {
            return super.fears() + 5;
        }

        @Override
        int light() {
            return super.light() + 1;
        }
    }

    static class Orphan extends Lamb {
        @Override
        int strays(World w, Beast b) {
            for (Beast other : w.beasts) {
                if (other != b && other.cell == b.cell) {
                    return 0;
                }
            }
            return super.strays(w, b);
        }

        @Override
        int calms() {
            return 0;
        }

        @Override
        int light() {
            return super.light() + 1;
        }
    }

    static class Wanderer extends Sheep {
        @Override
        int strays(World w, Beast b) {
            return 2;
        }

        @Override
        int fears() {
            return 0;
        }

        @Override
        int light() {
            return 1;
        }
    }

    private static final Sheep[] BY_NUMBER = {
        new Sheep(), new Ram(), new Ewe(), new Lamb(), new Orphan(), new Wanderer(), new Leader()
    };
    private static final List<String> NAMES =
            Arrays.asList("sheep", "ram", "ewe", "lamb", "orphan", "wanderer", "leader");

    static final class Beast {
        int kind, cell, fear, lost, found;

        Beast twin() {
            Beast b = new Beast();
            b.kind = kind;
            b.cell = cell;
            b.fear = fear;
            b.lost = lost;
            b.found = found;
            return b;
        }

        Sheep nature() {
            return BY_NUMBER[kind];
        }
    }

    static final class World {
        int fold = 0, keeper = 0, carried = -1, wolf = -1, pace = 1, hour = 0, z = 1;
        List<Beast> beasts = new ArrayList<>();
        int[] spots = {-1, -1, -1, -1, -1, -1, -1, -1, -1, -1};

        World twin() {
            World w = new World();
            w.fold = fold;
            w.keeper = keeper;
            w.carried = carried;
            w.wolf = wolf;
            w.pace = pace;
            w.hour = hour;
            w.z = z;
            for (Beast b : beasts) {
                w.beasts.add(b.twin());
            }
            w.spots = spots.clone();
            return w;
        }

        int far(Beast b) {
            return Math.abs(b.cell - fold);
        }

        void keeperTo(int cell) {
            keeper = cell;
            if (carried != -1) {
                beasts.get(carried).cell = cell;
            }
        }

        int sought() {
            int best = -1;
            for (int i = beasts.size() - 1; i >= 0; i--) {
                if (far(beasts.get(i)) >= 3 && (best == -1 || far(beasts.get(i)) >= far(beasts.get(best)))) {
                    best = i;
                }
            }
            return best;
        }

        void hourGoesBy(int tethered) {
            for (int i = 0; i < beasts.size(); i++) {
                if (i != carried && (tethered >> i & 1) == 0) {
                    stray(beasts.get(i));
                }
            }
            if (wolf != -1 && Math.abs(wolf - keeper) > 1) {
                wolfGoes();
            }
            if (carried != -1) {
                int steps = beasts.get(carried).nature().light();
                for (int k = 0; k < steps; k++) {
                    keeperTo(keeper + Integer.signum(fold - keeper));
                }
                if (keeper == fold) {
                    Beast b = beasts.get(carried);
                    b.found = b.found == 9999 ? 9999 : b.found + 1;
                    b.fear = 0;
                    carried = -1;
                }
            } else {
                int s = sought();
                int aim = s == -1 ? fold : beasts.get(s).cell;
                keeper += Integer.signum(aim - keeper);
                keeper += Integer.signum(aim - keeper);
                if (s != -1 && keeper == aim) {
                    carried = s;
                }
            }
            for (Beast b : beasts) {
                b.lost = b.cell == fold ? 0 : b.lost == 9999 ? 9999 : b.lost + 1;
                b.fear -= Math.min(b.fear, b.nature().calms());
            }
            hour = hour == 99999 ? 99999 : hour + 1;
        }

        private void stray(Beast b) {
            int steps = b.nature().strays(this, b);
            for (int k = steps; k < 0; k++) {
                b.cell += Integer.signum(fold - b.cell);
            }
            int way = b.cell != fold ? Integer.signum(b.cell - fold) : fold == 15 ? -1 : 1;
            for (int k = 0; k < steps; k++) {
                if (b.cell + way >= 0 && b.cell + way <= 15) {
                    b.cell += way;
                }
            }
        }

        private void wolfGoes() {
            Beast prey = null;
            for (int i = beasts.size() - 1; i >= 0; i--) {
                Beast b = beasts.get(i);
                if (i != carried && (prey == null || Math.abs(b.cell - wolf) <= Math.abs(prey.cell - wolf))) {
                    prey = b;
                }
            }
            for (int k = 0; k < pace && prey != null; k++) {
                wolf += Integer.signum(prey.cell - wolf);
            }
            for (int i = 0; i < beasts.size(); i++) {
                Beast b = beasts.get(i);
                if (i != carried && b.cell >= wolf - 2 && b.cell <= wolf + 2) {
                    b.fear = Math.min(99, b.fear + b.nature().fears());
                }
            }
        }

        World behind(int n, int tethered) {
            World w = twin();
            for (int i = 0; i < n; i++) {
                w.hourGoesBy(tethered);
            }
            return w;
        }

        int trait(int s, int what) {
            Beast b = beasts.get(s);
            int[] all = {b.kind, b.cell, b.fear, b.lost, b.found, far(b), b.nature().strays(this, b),
                b.nature().fears(), b.nature().calms(), b.nature().light()};
            return all[what];
        }

        int feature(int what) {
            int[] all = {fold, keeper, wolf, pace, carried};
            return all[what];
        }

        int sum(int what) {
            int sum = 0;
            for (int i = 0; i < beasts.size(); i++) {
                sum += trait(i, what);
            }
            return sum;
        }

        int set(int what, int least, int most) {
            int set = 0;
            for (int i = 0; i < beasts.size(); i++) {
                int v = trait(i, what);
                set += v >= least && v <= most ? 1 << i : 0;
            }
            return set;
        }
    }

    private World world = new World();
    private World keptWorld = null;
    private String tape = "";
    private final int[][] sheets = new int[4][];
    private final int[] sheetBits = new int[4];
    private final int[] told = new int[7];

    /** The call by its number in the document, 2 to 40. */
    long call(int promise, int a, int b, int c, int d, int e) {
        try {
            return answer(promise, a, b, c, d, e);
        } catch (Finding f) {
            told[f.which]++;
            return -1000001L - f.which;
        }
    }

    private static void ask(boolean so, int which) {
        if (!so) {
            throw new Finding(which);
        }
    }

    private static void within(int v, int least, int most) {
        ask(v >= least && v <= most, BEYOND);
    }

    private void isSheep(int s) {
        within(s, 0, world.beasts.size() - 1);
    }

    private void isSheet(int s) {
        within(s, 0, 3);
        ask(sheets[s] != null, MISSING);
    }

    private long answer(int promise, int a, int b, int c, int d, int e) {
        switch (promise) {
            case 2: return set(a, b);
            case 3: within(a, 0, 4); return world.feature(a);
            case 4: return sheep(a, b);
            case 5: isSheep(a); within(b, 0, 9); return world.trait(a, b);
            case 6: return change(a, b, c);
            case 7: return drop();
            case 8: within(a, 0, 15); return world.set(1, a, a);
            case 9: return go(a);
            case 10: return now(a);
            case 11: isSheep(a); within(b, 1, 4); within(c, 0, 100); return world.behind(c, 0).trait(a, b);
            case 12: return later(a, b);
            case 13: isSheep(a); within(b, 0, 9999); return first(a, 4, b);
            case 14: return home();
            case 15: isSheep(a); within(b, 0, 99); return first(a, 2, b);
            case 16: return standFor(a);
            case 17: return foldFor(a);
            case 18: return kindFor(a, b);
            case 19: return paceFor(a, b);
            case 20: return tether(a);
            case 21: return fits(a, b);
            case 22: return kinds(a, b);
            case 23: return nights(a);
            case 24: return odds(a, b, c);
            case 25: return seed(a);
            case 26: return feed(a, b);
            case 27: return wipe();
            case 28: return text();
            case 29: return hold(a, b);
            case 30: return as(a, b);
            case 31: return sheet(a, b, c);
            case 32: return write(a, b, c);
            case 33: return copy(a, b, c, d, e);
            case 34: return load(a);
            case 35: return judge(a);
            case 36: keptWorld = world.twin(); return 1;
            case 37: ask(keptWorld != null, NONE); world = keptWorld.twin(); return world.hour;
            case 38: return tear();
            case 39: return count(a);
            default: return status(a);
        }
    }

    private int set(int what, int v) {
        within(what, 0, 3);
        int[] least = {0, 0, -1, 0};
        int[] most = {15, 15, 15, 5};
        within(v, least[what], most[what]);
        int was = world.feature(what);
        if (what == 0) {
            world.fold = v;
        } else if (what == 1) {
            world.keeperTo(v);
        } else if (what == 2) {
            world.wolf = v;
        } else {
            world.pace = v;
        }
        return was;
    }

    private int sheep(int kind, int cell) {
        within(kind, 0, 6);
        within(cell, 0, 15);
        ask(world.beasts.size() < 8, FULL);
        Beast b = new Beast();
        b.kind = kind;
        b.cell = cell;
        world.beasts.add(b);
        return world.beasts.size() - 1;
    }

    private int change(int s, int what, int v) {
        isSheep(s);
        within(what, 0, 4);
        int[] most = {6, 15, 99, 9999, 9999};
        within(v, 0, most[what]);
        ask(what != 1 || world.carried != s, STATE);
        int was = world.trait(s, what);
        Beast b = world.beasts.get(s);
        b.kind = what == 0 ? v : b.kind;
        b.cell = what == 1 ? v : b.cell;
        b.fear = what == 2 ? v : b.fear;
        b.lost = what == 3 ? v : b.lost;
        b.found = what == 4 ? v : b.found;
        return was;
    }

    private int drop() {
        ask(world.carried != -1, NONE);
        int was = world.carried;
        world.carried = -1;
        return was;
    }

    private int go(int n) {
        within(n, 1, 60);
        ask(world.hour + n <= 99999, STATE);
        world = world.behind(n, 0);
        return world.sum(4);
    }

    private int now(int what) {
        within(what, 0, 7);
        int afraid = -1;
        for (int i = world.beasts.size() - 1; i >= 0; i--) {
            if (afraid == -1 || world.beasts.get(i).fear >= world.beasts.get(afraid).fear) {
                afraid = i;
            }
        }
        int[] all = {world.hour, world.set(5, 3, 15), world.sum(2), world.sum(4), world.sum(3),
            world.sought(), world.set(5, 0, 0), afraid};
        return all[what];
    }

    private int later(int what, int n) {
        ask(what == 1 || what == 2 || what == 4, BEYOND);
        within(n, 0, 100);
        return world.behind(n, 0).feature(what);
    }

    private int first(int s, int what, int v) {
        for (int n = 0; n <= 200; n++) {
            if (world.behind(n, 0).trait(s, what) >= v) {
                return n;
            }
        }
        throw new Finding(NONE);
    }

    private int home() {
        for (int n = 0; n <= 200; n++) {
            if (world.behind(n, 0).sum(5) == 0) {
                return n;
            }
        }
        throw new Finding(NONE);
    }

    /** The place of the least of a row, the first of several. */
    private static int least(int[] row) {
        int best = 0;
        for (int i = 0; i < row.length; i++) {
            if (row[i] < row[best]) {
                best = i;
            }
        }
        return best;
    }

    private int standFor(int n) {
        within(n, 0, 40);
        ask(world.carried == -1, STATE);
        int[] sums = new int[16];
        for (int cell = 0; cell < 16; cell++) {
            World w = world.twin();
            w.keeper = cell;
            sums[cell] = w.behind(n, 0).sum(2);
        }
        return least(sums);
    }

    private int foldFor(int n) {
        within(n, 0, 40);
        int[] sums = new int[16];
        for (int cell = 0; cell < 16; cell++) {
            World w = world.twin();
            w.fold = cell;
            sums[cell] = w.behind(n, 0).sum(3);
        }
        return least(sums);
    }

    private int kindFor(int s, int n) {
        isSheep(s);
        within(n, 0, 40);
        int[] lack = new int[7];
        for (int kind = 0; kind < 7; kind++) {
            World w = world.twin();
            w.beasts.get(s).kind = kind;
            lack[kind] = -w.behind(n, 0).beasts.get(s).found;
        }
        return least(lack);
    }

    private int paceFor(int v, int n) {
        within(v, 0, 999);
        within(n, 0, 40);
        int best = -1;
        for (int pace = 0; pace <= 5; pace++) {
            World w = world.twin();
            w.pace = pace;
            best = w.behind(n, 0).sum(2) <= v ? pace : best;
        }
        ask(best != -1, NONE);
        return best;
    }

    private int tether(int n) {
        within(n, 0, 20);
        int size = world.beasts.size();
        for (int few = 0; few <= size; few++) {
            for (int set = 0; set < 1 << size; set++) {
                if (Integer.bitCount(set) == few && world.behind(n, set).set(5, 3, 15) == 0) {
                    return set;
                }
            }
        }
        throw new Finding(NONE);
    }

    private static boolean goes(World begin, int[] ways, int beast) {
        for (int n = 0; n < ways.length; n++) {
            World w = begin.behind(n, 0);
            int at = beast == -1 ? w.keeper : w.beasts.get(beast).cell;
            if (ways[n] != -1 && ways[n] != at) {
                return false;
            }
        }
        return true;
    }

    private int fits(int s, int beast) {
        isSheet(s);
        isSheep(beast);
        ask(world.carried != beast, STATE);
        int set = 0;
        for (int cell = 0; cell < 16; cell++) {
            World w = world.twin();
            w.beasts.get(beast).cell = cell;
            set += goes(w, sheets[s], -1) ? 1 << cell : 0;
        }
        return set;
    }

    private int kinds(int s, int beast) {
        isSheet(s);
        isSheep(beast);
        int set = 0;
        for (int kind = 0; kind < 7; kind++) {
            World w = world.twin();
            w.beasts.get(beast).kind = kind;
            set += goes(w, sheets[s], beast) ? 1 << kind : 0;
        }
        return set;
    }

    private int draw() {
        world.z = (int) (world.z * 1103515245L + 12345L);
        return (int) ((world.z & 0xffffffffL) / 256);
    }

    private int nights(int n) {
        within(n, 1, 20);
        ask(world.hour + n <= 99999, STATE);
        for (int i = 0; i < n; i++) {
            world.wolf = draw() & 15;
            world.pace = draw() % 6;
            world.hourGoesBy(0);
        }
        return world.sum(2);
    }

    private long odds(int s, int n, int what) {
        isSheep(s);
        within(n, 0, 15);
        within(what, 0, 1);
        java.math.BigInteger above = java.math.BigInteger.ZERO;
        for (int cell = 0; cell < 16; cell++) {
            if (Math.abs(cell - world.beasts.get(s).cell) > 2) {
                above = above.add(java.math.BigInteger.ONE);
            }
        }
        above = above.pow(n);
        java.math.BigInteger below = java.math.BigInteger.valueOf(16).pow(n);
        java.math.BigInteger common = above.gcd(below);
        return (what == 0 ? above : below).divide(common).longValueExact();
    }

    private int seed(int v) {
        int was = world.z;
        world.z = v;
        return was;
    }

    private int feed(int bytes, int n) {
        within(n, 1, 4);
        ask(tape.length() + n <= 120, FULL);
        for (int i = n - 1; i >= 0; i--) {
            tape += (char) (bytes >> 8 * i & 255);
        }
        return tape.length();
    }

    private int wipe() {
        int was = tape.length();
        tape = "";
        return was;
    }

    /** Tokens are told by a pattern; what stands where a token should, but isn't one, is a token "?". */
    private static final Pattern TOKEN = Pattern.compile("[a-z]+|[0-9]+|;|[^ ]");

    private final List<String> tokens = new ArrayList<>();
    private final List<Integer> places = new ArrayList<>();
    private int at;

    private int text() {
        tokens.clear();
        places.clear();
        Matcher m = TOKEN.matcher(tape);
        while (m.find()) {
            tokens.add(m.group());
            places.add(m.start());
        }
        tokens.add("");
        places.add(tape.length());
        tape = "";
        at = 0;
        World w = world.twin();
        int items = 0;
        do {
            if (!item(w)) {
                return -1 - places.get(at);
            }
            items++;
        } while (comes(";"));
        if (!tokens.get(at).isEmpty()) {
            return -1 - places.get(at);
        }
        world = w;
        return items;
    }

    private boolean comes(String token) {
        boolean so = tokens.get(at).equals(token);
        at += so ? 1 : 0;
        return so;
    }

    private int number(int most) {
        String t = tokens.get(at);
        if (!t.matches("[0-9]+") || new java.math.BigInteger(t).compareTo(java.math.BigInteger.valueOf(most)) > 0) {
            return -1;
        }
        at++;
        return Integer.parseInt(t.replaceFirst("^0+(?=.)", ""));
    }

    private boolean item(World w) {
        int kind = NAMES.indexOf(tokens.get(at));
        if (kind >= 0) {
            if (w.beasts.size() == 8) {
                return false;
            }
            at++;
            Beast b = new Beast();
            b.kind = kind;
            b.cell = comes("at") ? number(15) : 0;
            b.fear = b.cell >= 0 && comes("fear") ? number(99) : 0;
            b.lost = b.cell >= 0 && b.fear >= 0 && comes("lost") ? number(9999) : 0;
            w.beasts.add(b);
            return b.cell >= 0 && b.fear >= 0 && b.lost >= 0;
        }
        if (comes("fold")) {
            w.fold = number(15);
            return w.fold >= 0;
        }
        if (comes("keeper")) {
            int cell = number(15);
            w.keeperTo(cell);
            return cell >= 0;
        }
        if (comes("wolf")) {
            w.wolf = number(15);
            w.pace = w.wolf >= 0 && comes("pace") ? number(5) : w.pace;
            return w.wolf >= 0 && w.pace >= 0;
        }
        return false;
    }

    private int hold(int spot, int s) {
        within(spot, 0, 9);
        within(s, -1, world.beasts.size() - 1);
        world.spots[spot] = s;
        return 1;
    }

    private int as(int spot, int kind) {
        within(spot, 0, 9);
        within(kind, 0, 6);
        int s = world.spots[spot];
        ask(s != -1, MISSING);
        ask(BY_NUMBER[kind].getClass().isInstance(world.beasts.get(s).nature()), KIND);
        return s;
    }

    private int sheet(int s, int bits, int n) {
        within(s, 0, 3);
        ask(Arrays.asList(0, 8, 16, 32).contains(bits), BEYOND);
        ask(n >= 0, SIZE);
        within(n, 0, 40);
        sheets[s] = bits == 0 ? null : new int[n];
        sheetBits[s] = bits;
        return bits == 0 ? 0 : n;
    }

    private int write(int s, int i, int v) {
        isSheet(s);
        within(i, 0, sheets[s].length - 1);
        int off = 32 - sheetBits[s];
        sheets[s][i] = v << off >> off;
        return 1;
    }

    private int copy(int s, int from, int t, int to, int n) {
        within(s, 0, 3);
        within(t, 0, 3);
        ask(sheets[s] != null && sheets[t] != null, MISSING);
        ask(sheetBits[s] == sheetBits[t], KIND);
        ask(from >= 0 && to >= 0 && n >= 0, BEYOND);
        ask((long) from + n <= sheets[s].length && (long) to + n <= sheets[t].length, BEYOND);
        int[] were = sheets[s].clone();
        for (int i = 0; i < n; i++) {
            sheets[t][to + i] = were[from + i];
        }
        return n;
    }

    private int load(int s) {
        isSheet(s);
        int came = 0;
        for (int v : sheets[s]) {
            if (v < 0 || v > 99 || came == world.beasts.size()) {
                break;
            }
            world.beasts.get(came++).fear = v;
        }
        return came;
    }

    private int judge(int s) {
        isSheet(s);
        int i = 0;
        for (int v : sheets[s]) {
            if (i >= world.beasts.size() || world.beasts.get(i).cell != v) {
                return 1 + i;
            }
            i++;
        }
        return 0;
    }

    private int tear() {
        int was = keptWorld == null ? 0 : 1;
        keptWorld = null;
        return was;
    }

    private int count(int what) {
        within(what, 0, 7);
        int held = 0;
        for (int s : world.spots) {
            held += s >= 0 ? 1 : 0;
        }
        int[] all = {world.hour, world.beasts.size(), world.sum(2), world.sum(4), world.sum(3),
            tape.length(), world.z, held};
        return all[what];
    }

    private int status(int which) {
        within(which, -1, 6);
        return which == -1 ? Arrays.stream(told).sum() : told[which];
    }
}
