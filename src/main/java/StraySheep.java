/**
 * A hill in sixteen cells with a fold, a keeper, a wolf and up to eight sheep.
 * What each call promises stands in the document; README.md tells how to use it.
 */
public final class StraySheep {
    private static final int LOW = -1000001;
    private static final int BEYOND = 0;
    private static final int FULL = 1;
    private static final int KIND = 2;
    private static final int NONE = 3;
    private static final int STATE = 4;
    private static final int MISSING = 5;
    private static final int SIZE = 6;
    private static final int FINDINGS = 7;

    private static final int CELLS = 16;
    private static final int LAST_CELL = CELLS - 1;
    private static final int MOST_SHEEP = 8;
    private static final int MOST_PACE = 5;
    private static final int MOST_FEAR = 99;
    private static final int MOST_LOST = 9999;
    private static final int MOST_FOUND = 9999;
    private static final int LAST_HOUR = 99999;
    private static final int FAR_AWAY = 3;
    private static final int NOBODY = -1;
    private static final int AWAY = -1;
    private static final int UNTETHERED = 0;

    private static final int SHEEP = 0;
    private static final int RAM = 1;
    private static final int EWE = 2;
    private static final int LAMB = 3;
    private static final int ORPHAN = 4;
    private static final int WANDERER = 5;
    private static final int LEADER = 6;
    private static final int KINDS = 7;
    private static final int NO_KIND = -1;

    private static final int SPOTS = 10;
    private static final int SHEETS = 4;
    private static final int SHEET_NUMBERS = 40;
    private static final int ANY = -1;
    private static final int TAPE_BYTES = 120;

    private static final int MOST_GO = 60;
    private static final int MOST_AHEAD = 100;
    private static final int MOST_WAIT = 200;
    private static final int MOST_PLAN = 40;
    private static final int MOST_TETHER = 20;
    private static final int MOST_NIGHTS = 20;
    private static final int MOST_ODDS = 15;
    private static final int MOST_FEAR_ASKED = 999;
    private static final int ABOVE_ALL_SUMS = MOST_SHEEP * MOST_LOST + 1;

    private final Hill live = new Hill();
    // Every question about what would be is played on this one, so no call makes objects.
    private final Hill trial = new Hill();
    private final Hill kept = new Hill();
    private boolean isKept = false;
    private final int[] spots = new int[SPOTS];
    private final int[] keptSpots = new int[SPOTS];
    private int z = 1;
    private int keptZ = 1;
    private final Tape tape = new Tape();
    private final Sheet[] sheets = {new Sheet(), new Sheet(), new Sheet(), new Sheet()};
    private final int[] findings = new int[FINDINGS];

    public StraySheep() {
        for (int i = 0; i < SPOTS; i++) {
            spots[i] = NOBODY;
            keptSpots[i] = NOBODY;
        }
    }

    // ---- hill, sheep

    public int set(int what, int v) {
        if (!canBeSet(what, v)) {
            return finding(BEYOND);
        }
        int was = live.feature(what);
        switch (what) {
            case 0:
                live.fold = v;
                break;
            case 1:
                live.moveKeeper(v);
                break;
            case 2:
                live.wolf = v;
                break;
            default:
                live.pace = v;
                break;
        }
        return was;
    }

    public int hill(int what) {
        if (!isWithin(what, 0, 4)) {
            return finding(BEYOND);
        }
        return live.feature(what);
    }

    public int sheep(int kind, int cell) {
        if (!isKind(kind) || !isCell(cell)) {
            return finding(BEYOND);
        }
        if (live.isFull()) {
            return finding(FULL);
        }
        return live.add(kind, cell);
    }

    public int of(int sheep, int what) {
        if (!live.has(sheep) || !isWithin(what, 0, 9)) {
            return finding(BEYOND);
        }
        return live.trait(sheep, what);
    }

    public int change(int sheep, int what, int v) {
        if (!live.has(sheep) || !canBeChanged(what, v)) {
            return finding(BEYOND);
        }
        if (what == 1 && sheep == live.carried) {
            return finding(STATE);
        }
        int was = live.trait(sheep, what);
        switch (what) {
            case 0:
                live.kind[sheep] = v;
                break;
            case 1:
                live.cell[sheep] = v;
                break;
            case 2:
                live.fear[sheep] = v;
                break;
            case 3:
                live.lost[sheep] = v;
                break;
            default:
                live.found[sheep] = v;
                break;
        }
        return was;
    }

    public int drop() {
        if (live.carried == NOBODY) {
            return finding(NONE);
        }
        int was = live.carried;
        live.carried = NOBODY;
        return was;
    }

    public int who(int cell) {
        if (!isCell(cell)) {
            return finding(BEYOND);
        }
        return live.sheepAt(cell);
    }

    // ---- hours

    public int go(int n) {
        if (!isWithin(n, 1, MOST_GO)) {
            return finding(BEYOND);
        }
        if (live.hour > LAST_HOUR - n) {
            return finding(STATE);
        }
        live.passHours(n);
        return live.total(live.found);
    }

    public int now(int what) {
        switch (what) {
            case 0:
                return live.hour;
            case 1:
                return live.farSheep();
            case 2:
                return live.total(live.fear);
            case 3:
                return live.total(live.found);
            case 4:
                return live.total(live.lost);
            case 5:
                return live.sought();
            case 6:
                return live.sheepAt(live.fold);
            case 7:
                return live.mostAfraid();
            default:
                return finding(BEYOND);
        }
    }

    // ---- what will be (nothing changes)

    public int ahead(int sheep, int what, int n) {
        if (!live.has(sheep) || !isWithin(what, 1, 4) || !isWithin(n, 0, MOST_AHEAD)) {
            return finding(BEYOND);
        }
        trial.become(live);
        trial.passHours(n);
        return trial.trait(sheep, what);
    }

    public int later(int what, int n) {
        if ((what != 1 && what != 2 && what != 4) || !isWithin(n, 0, MOST_AHEAD)) {
            return finding(BEYOND);
        }
        trial.become(live);
        trial.passHours(n);
        return trial.feature(what);
    }

    public int when(int sheep, int v) {
        if (!live.has(sheep) || !isWithin(v, 0, MOST_FOUND)) {
            return finding(BEYOND);
        }
        return firstHourOfAtLeast(trial.found, sheep, v);
    }

    public int home() {
        trial.become(live);
        for (int hours = 0; hours <= MOST_WAIT; hours++) {
            if (trial.allAtFold()) {
                return hours;
            }
            trial.passHour(UNTETHERED);
        }
        return finding(NONE);
    }

    public int panic(int sheep, int v) {
        if (!live.has(sheep) || !isWithin(v, 0, MOST_FEAR)) {
            return finding(BEYOND);
        }
        return firstHourOfAtLeast(trial.fear, sheep, v);
    }

    // ---- where to stand

    public int standFor(int n) {
        if (!isWithin(n, 0, MOST_PLAN)) {
            return finding(BEYOND);
        }
        if (live.carried != NOBODY) {
            return finding(STATE);
        }
        int best = 0;
        int least = ABOVE_ALL_SUMS;
        for (int place = 0; place < CELLS; place++) {
            trial.become(live);
            trial.moveKeeper(place);
            trial.passHours(n);
            int sum = trial.total(trial.fear);
            if (sum < least) {
                least = sum;
                best = place;
            }
        }
        return best;
    }

    public int foldFor(int n) {
        if (!isWithin(n, 0, MOST_PLAN)) {
            return finding(BEYOND);
        }
        int best = 0;
        int least = ABOVE_ALL_SUMS;
        for (int place = 0; place < CELLS; place++) {
            trial.become(live);
            trial.fold = place;
            trial.passHours(n);
            int sum = trial.total(trial.lost);
            if (sum < least) {
                least = sum;
                best = place;
            }
        }
        return best;
    }

    public int kindFor(int sheep, int n) {
        if (!live.has(sheep) || !isWithin(n, 0, MOST_PLAN)) {
            return finding(BEYOND);
        }
        int best = 0;
        int most = -1;
        for (int kind = 0; kind < KINDS; kind++) {
            trial.become(live);
            trial.kind[sheep] = kind;
            trial.passHours(n);
            if (trial.found[sheep] > most) {
                most = trial.found[sheep];
                best = kind;
            }
        }
        return best;
    }

    public int paceFor(int v, int n) {
        if (!isWithin(v, 0, MOST_FEAR_ASKED) || !isWithin(n, 0, MOST_PLAN)) {
            return finding(BEYOND);
        }
        for (int pace = MOST_PACE; pace >= 0; pace--) {
            trial.become(live);
            trial.pace = pace;
            trial.passHours(n);
            if (trial.total(trial.fear) <= v) {
                return pace;
            }
        }
        return finding(NONE);
    }

    public int tether(int n) {
        if (!isWithin(n, 0, MOST_TETHER)) {
            return finding(BEYOND);
        }
        int best = 0;
        int fewest = MOST_SHEEP + 1;
        int sets = 1 << live.size;
        for (int set = 0; set < sets; set++) {
            if (Integer.bitCount(set) < fewest && keepsNear(set, n)) {
                fewest = Integer.bitCount(set);
                best = set;
            }
        }
        return fewest <= MOST_SHEEP ? best : finding(NONE);
    }

    // ---- by told ways

    public int fits(int s, int sheep) {
        if (!isSheet(s)) {
            return finding(BEYOND);
        }
        if (sheets[s].isMissing()) {
            return finding(MISSING);
        }
        if (!live.has(sheep)) {
            return finding(BEYOND);
        }
        if (sheep == live.carried) {
            return finding(STATE);
        }
        int set = 0;
        for (int place = 0; place < CELLS; place++) {
            trial.become(live);
            trial.cell[sheep] = place;
            if (keeperGoesAsTold(sheets[s])) {
                set |= 1 << place;
            }
        }
        return set;
    }

    public int kinds(int s, int sheep) {
        if (!isSheet(s)) {
            return finding(BEYOND);
        }
        if (sheets[s].isMissing()) {
            return finding(MISSING);
        }
        if (!live.has(sheep)) {
            return finding(BEYOND);
        }
        int set = 0;
        for (int kind = 0; kind < KINDS; kind++) {
            trial.become(live);
            trial.kind[sheep] = kind;
            if (sheepGoesAsTold(sheets[s], sheep)) {
                set |= 1 << kind;
            }
        }
        return set;
    }

    // ---- nights

    public int nights(int n) {
        if (!isWithin(n, 1, MOST_NIGHTS)) {
            return finding(BEYOND);
        }
        if (live.hour > LAST_HOUR - n) {
            return finding(STATE);
        }
        for (int night = 0; night < n; night++) {
            live.wolf = draw() % CELLS;
            live.pace = draw() % (MOST_PACE + 1);
            live.passHour(UNTETHERED);
        }
        return live.total(live.fear);
    }

    public long odds(int sheep, int n, int what) {
        if (!live.has(sheep) || !isWithin(n, 0, MOST_ODDS) || !isWithin(what, 0, 1)) {
            return finding(BEYOND);
        }
        int above = live.cellsOutOfReachOf(sheep);
        int below = CELLS;
        // The line's foot is a power of two, so halving both is all the shortening there is.
        for (int halving = 0; halving < 4 && above % 2 == 0; halving++) {
            above /= 2;
            below /= 2;
        }
        return power(what == 0 ? above : below, n);
    }

    public int seed(int v) {
        int was = z;
        z = v;
        return was;
    }

    // ---- texts

    public int feed(int bytes, int n) {
        if (!isWithin(n, 1, 4)) {
            return finding(BEYOND);
        }
        if (!tape.hasRoomFor(n)) {
            return finding(FULL);
        }
        for (int left = n - 1; left >= 0; left--) {
            tape.append((bytes >>> (8 * left)) & 255);
        }
        return tape.length;
    }

    public int wipe() {
        int was = tape.length;
        tape.length = 0;
        return was;
    }

    public int text() {
        // Read on the trial, so that a fault leaves the hill as it was.
        trial.become(live);
        int items = tape.readOnto(trial);
        tape.length = 0;
        if (items >= 0) {
            live.become(trial);
        }
        return items;
    }

    // ---- spots, sheets

    public int hold(int spot, int sheep) {
        if (!isSpot(spot) || (sheep != NOBODY && !live.has(sheep))) {
            return finding(BEYOND);
        }
        spots[spot] = sheep;
        return 1;
    }

    public int as(int spot, int kind) {
        if (!isSpot(spot) || !isKind(kind)) {
            return finding(BEYOND);
        }
        int held = spots[spot];
        if (!live.has(held)) {
            return finding(MISSING);
        }
        if (!isUnder(live.kind[held], kind)) {
            return finding(KIND);
        }
        return held;
    }

    public int sheet(int s, int bits, int n) {
        if (!isSheet(s) || (bits != 0 && bits != 8 && bits != 16 && bits != 32)) {
            return finding(BEYOND);
        }
        if (n < 0) {
            return finding(SIZE);
        }
        if (n > SHEET_NUMBERS) {
            return finding(BEYOND);
        }
        sheets[s].begin(bits, n);
        return sheets[s].size;
    }

    public int write(int s, int i, int v) {
        if (!isSheet(s)) {
            return finding(BEYOND);
        }
        if (sheets[s].isMissing()) {
            return finding(MISSING);
        }
        if (!isWithin(i, 0, sheets[s].size - 1)) {
            return finding(BEYOND);
        }
        sheets[s].put(i, v);
        return 1;
    }

    public int copy(int s, int from, int t, int to, int n) {
        if (!isSheet(s) || !isSheet(t)) {
            return finding(BEYOND);
        }
        if (sheets[s].isMissing() || sheets[t].isMissing()) {
            return finding(MISSING);
        }
        if (sheets[s].bits != sheets[t].bits) {
            return finding(KIND);
        }
        if (!sheets[s].hasRun(from, n) || !sheets[t].hasRun(to, n)) {
            return finding(BEYOND);
        }
        System.arraycopy(sheets[s].numbers, from, sheets[t].numbers, to, n);
        return n;
    }

    public int load(int s) {
        if (!isSheet(s)) {
            return finding(BEYOND);
        }
        if (sheets[s].isMissing()) {
            return finding(MISSING);
        }
        int came = 0;
        while (came < sheets[s].size && live.has(came)
                && isWithin(sheets[s].numbers[came], 0, MOST_FEAR)) {
            live.fear[came] = sheets[s].numbers[came];
            came++;
        }
        return came;
    }

    public int judge(int s) {
        if (!isSheet(s)) {
            return finding(BEYOND);
        }
        if (sheets[s].isMissing()) {
            return finding(MISSING);
        }
        for (int i = 0; i < sheets[s].size; i++) {
            if (!live.has(i) || live.cell[i] != sheets[s].numbers[i]) {
                return 1 + i;
            }
        }
        return 0;
    }

    // ---- images

    public int image() {
        kept.become(live);
        System.arraycopy(spots, 0, keptSpots, 0, SPOTS);
        keptZ = z;
        isKept = true;
        return 1;
    }

    public int undo() {
        if (!isKept) {
            return finding(NONE);
        }
        live.become(kept);
        System.arraycopy(keptSpots, 0, spots, 0, SPOTS);
        z = keptZ;
        return live.hour;
    }

    public int tear() {
        int was = isKept ? 1 : 0;
        isKept = false;
        return was;
    }

    public int count(int what) {
        switch (what) {
            case 0:
                return live.hour;
            case 1:
                return live.size;
            case 2:
                return live.total(live.fear);
            case 3:
                return live.total(live.found);
            case 4:
                return live.total(live.lost);
            case 5:
                return tape.length;
            case 6:
                return z;
            case 7:
                return spotsInUse();
            default:
                return finding(BEYOND);
        }
    }

    public int status(int which) {
        if (!isWithin(which, -1, FINDINGS - 1)) {
            return finding(BEYOND);
        }
        if (which >= 0) {
            return findings[which];
        }
        int sum = 0;
        for (int i = 0; i < FINDINGS; i++) {
            sum += findings[i];
        }
        return sum;
    }

    // ---- what the calls share

    private int finding(int which) {
        findings[which]++;
        return LOW - which;
    }

    private static boolean isWithin(int v, int least, int most) {
        return v >= least && v <= most;
    }

    private static boolean isCell(int v) {
        return isWithin(v, 0, LAST_CELL);
    }

    private static boolean isKind(int v) {
        return isWithin(v, 0, KINDS - 1);
    }

    private static boolean isSpot(int v) {
        return isWithin(v, 0, SPOTS - 1);
    }

    private static boolean isSheet(int v) {
        return isWithin(v, 0, SHEETS - 1);
    }

    private static boolean canBeSet(int what, int v) {
        switch (what) {
            case 0:
            case 1:
                return isCell(v);
            case 2:
                return isCell(v) || v == AWAY;
            case 3:
                return isWithin(v, 0, MOST_PACE);
            default:
                return false;
        }
    }

    private static boolean canBeChanged(int what, int v) {
        switch (what) {
            case 0:
                return isKind(v);
            case 1:
                return isCell(v);
            case 2:
                return isWithin(v, 0, MOST_FEAR);
            case 3:
                return isWithin(v, 0, MOST_LOST);
            case 4:
                return isWithin(v, 0, MOST_FOUND);
            default:
                return false;
        }
    }

    /** The row is one of the trial's own, so it tells what is so behind each hour. */
    private int firstHourOfAtLeast(int[] row, int sheep, int v) {
        trial.become(live);
        for (int hours = 0; hours <= MOST_WAIT; hours++) {
            if (row[sheep] >= v) {
                return hours;
            }
            trial.passHour(UNTETHERED);
        }
        return finding(NONE);
    }

    private boolean keepsNear(int tethered, int n) {
        trial.become(live);
        for (int hours = 0; hours < n; hours++) {
            trial.passHour(tethered);
        }
        return trial.farSheep() == 0;
    }

    private boolean keeperGoesAsTold(Sheet told) {
        for (int hours = 0; hours < told.size; hours++) {
            if (!told.allows(hours, trial.keeper)) {
                return false;
            }
            trial.passHour(UNTETHERED);
        }
        return true;
    }

    private boolean sheepGoesAsTold(Sheet told, int sheep) {
        for (int hours = 0; hours < told.size; hours++) {
            if (!told.allows(hours, trial.cell[sheep])) {
                return false;
            }
            trial.passHour(UNTETHERED);
        }
        return true;
    }

    private int draw() {
        z = z * 1103515245 + 12345;
        return z >>> 8;
    }

    private static long power(int base, int n) {
        long product = 1;
        for (int i = 0; i < n; i++) {
            product *= base;
        }
        return product;
    }

    private int spotsInUse() {
        int used = 0;
        for (int i = 0; i < SPOTS; i++) {
            if (spots[i] != NOBODY) {
                used++;
            }
        }
        return used;
    }

    private static boolean isUnder(int kind, int above) {
        int k = kind;
        // Seven kinds: no chain of them is longer.
        for (int step = 0; step < KINDS && k != NO_KIND; step++) {
            if (k == above) {
                return true;
            }
            k = kindAbove(k);
        }
        return false;
    }

    private static int kindAbove(int kind) {
        switch (kind) {
            case RAM:
            case EWE:
            case WANDERER:
                return SHEEP;
            case LAMB:
                return EWE;
            case ORPHAN:
                return LAMB;
            case LEADER:
                return RAM;
            default:
                return NO_KIND;
        }
    }

    private static int fearsOf(int kind) {
        switch (kind) {
            case RAM:
                return 5;
            case EWE:
                return 20;
            case LAMB:
            case ORPHAN:
                return 25;
            case WANDERER:
            case LEADER:
                return 0;
            default:
                return 10;
        }
    }

    private static int calmsOf(int kind) {
        switch (kind) {
            case RAM:
                return 2;
            case LEADER:
                return 4;
            case ORPHAN:
                return 0;
            default:
                return 1;
        }
    }

    private static int lightOf(int kind) {
        switch (kind) {
            case RAM:
            case LEADER:
            case WANDERER:
                return 1;
            case LAMB:
                return 3;
            case ORPHAN:
                return 4;
            default:
                return 2;
        }
    }

    private static int distance(int a, int b) {
        return a < b ? b - a : a - b;
    }

    private static int towards(int from, int to, int steps) {
        return from < to ? Math.min(from + steps, to) : Math.max(from - steps, to);
    }

    /** The hill with all that stands and goes on it; sheep are rows' places below size. */
    private static final class Hill {
        int fold = 0;
        int keeper = 0;
        int carried = NOBODY;
        int wolf = AWAY;
        int pace = 1;
        int hour = 0;
        int size = 0;
        final int[] kind = new int[MOST_SHEEP];
        final int[] cell = new int[MOST_SHEEP];
        final int[] fear = new int[MOST_SHEEP];
        final int[] lost = new int[MOST_SHEEP];
        final int[] found = new int[MOST_SHEEP];

        void become(Hill other) {
            fold = other.fold;
            keeper = other.keeper;
            carried = other.carried;
            wolf = other.wolf;
            pace = other.pace;
            hour = other.hour;
            size = other.size;
            System.arraycopy(other.kind, 0, kind, 0, MOST_SHEEP);
            System.arraycopy(other.cell, 0, cell, 0, MOST_SHEEP);
            System.arraycopy(other.fear, 0, fear, 0, MOST_SHEEP);
            System.arraycopy(other.lost, 0, lost, 0, MOST_SHEEP);
            System.arraycopy(other.found, 0, found, 0, MOST_SHEEP);
        }

        boolean has(int s) {
            return s >= 0 && s < size;
        }

        boolean isFull() {
            return size >= MOST_SHEEP;
        }

        int add(int newKind, int place) {
            if (isFull()) {
                return NOBODY;
            }
            int s = size;
            kind[s] = newKind;
            cell[s] = place;
            fear[s] = 0;
            lost[s] = 0;
            found[s] = 0;
            size = s + 1;
            return s;
        }

        void moveKeeper(int place) {
            keeper = place;
            if (has(carried)) {
                cell[carried] = place;
            }
        }

        int feature(int what) {
            switch (what) {
                case 0:
                    return fold;
                case 1:
                    return keeper;
                case 2:
                    return wolf;
                case 3:
                    return pace;
                default:
                    return carried;
            }
        }

        int trait(int s, int what) {
            switch (what) {
                case 0:
                    return kind[s];
                case 1:
                    return cell[s];
                case 2:
                    return fear[s];
                case 3:
                    return lost[s];
                case 4:
                    return found[s];
                case 5:
                    return far(s);
                case 6:
                    return strays(s);
                case 7:
                    return fearsOf(kind[s]);
                case 8:
                    return calmsOf(kind[s]);
                default:
                    return lightOf(kind[s]);
            }
        }

        int far(int s) {
            return distance(cell[s], fold);
        }

        int total(int[] row) {
            int sum = 0;
            for (int s = 0; s < size; s++) {
                sum += row[s];
            }
            return sum;
        }

        int sheepAt(int place) {
            int set = 0;
            for (int s = 0; s < size; s++) {
                if (cell[s] == place) {
                    set |= 1 << s;
                }
            }
            return set;
        }

        int farSheep() {
            int set = 0;
            for (int s = 0; s < size; s++) {
                if (far(s) >= FAR_AWAY) {
                    set |= 1 << s;
                }
            }
            return set;
        }

        boolean allAtFold() {
            return sheepAt(fold) == (1 << size) - 1;
        }

        int sought() {
            int best = NOBODY;
            int most = FAR_AWAY - 1;
            for (int s = 0; s < size; s++) {
                if (far(s) > most) {
                    most = far(s);
                    best = s;
                }
            }
            return best;
        }

        int mostAfraid() {
            int best = NOBODY;
            int most = -1;
            for (int s = 0; s < size; s++) {
                if (fear[s] > most) {
                    most = fear[s];
                    best = s;
                }
            }
            return best;
        }

        int cellsOutOfReachOf(int s) {
            int cells = 0;
            for (int place = 0; place < CELLS; place++) {
                if (distance(place, cell[s]) > 2) {
                    cells++;
                }
            }
            return cells;
        }

        int strays(int s) {
            switch (kind[s]) {
                case RAM:
                    return straysAsRam(s);
                case EWE:
                    return straysAsEwe(s);
                case LAMB:
                    return 2 * straysAsEwe(s);
                case ORPHAN:
                    return hasCompany(s) ? 0 : 2 * straysAsEwe(s);
                case WANDERER:
                    return 2;
                case LEADER:
                    return straysAsRam(s) - 1;
                default:
                    return straysAsSheep();
            }
        }

        int straysAsSheep() {
            return hour % 3 == 0 ? 1 : 0;
        }

        int straysAsRam(int s) {
            return fear[s] >= 50 ? straysAsSheep() + 1 : straysAsSheep();
        }

        int straysAsEwe(int s) {
            return fear[s] >= 30 ? -1 : straysAsSheep();
        }

        boolean hasCompany(int s) {
            return sheepAt(cell[s]) != 1 << s;
        }

        void passHours(int n) {
            for (int i = 0; i < n; i++) {
                passHour(UNTETHERED);
            }
        }

        /** Sheep of the tethered set don't go by themselves. */
        void passHour(int tethered) {
            strayAll(tethered);
            prowl();
            tend();
            settle();
            hour = Math.min(hour + 1, LAST_HOUR);
        }

        void strayAll(int tethered) {
            for (int s = 0; s < size; s++) {
                if (s != carried && (tethered & (1 << s)) == 0) {
                    cell[s] = strayedFrom(cell[s], strays(s));
                }
            }
        }

        int strayedFrom(int place, int steps) {
            if (steps < 0) {
                return towards(place, fold, -steps);
            }
            boolean isUpwards = place > fold || (place == fold && fold < LAST_CELL);
            return isUpwards ? Math.min(place + steps, LAST_CELL) : Math.max(place - steps, 0);
        }

        void prowl() {
            if (wolf == AWAY || distance(wolf, keeper) <= 1) {
                return;
            }
            int prey = nearestToWolf();
            if (prey != NOBODY) {
                wolf = towards(wolf, cell[prey], pace);
            }
            frighten();
        }

        int nearestToWolf() {
            int best = NOBODY;
            int least = CELLS;
            for (int s = 0; s < size; s++) {
                if (s != carried && distance(cell[s], wolf) < least) {
                    least = distance(cell[s], wolf);
                    best = s;
                }
            }
            return best;
        }

        void frighten() {
            for (int s = 0; s < size; s++) {
                if (s != carried && distance(cell[s], wolf) <= 2) {
                    fear[s] = Math.min(fear[s] + fearsOf(kind[s]), MOST_FEAR);
                }
            }
        }

        void tend() {
            if (has(carried)) {
                carryHome();
            } else {
                seek();
            }
        }

        void carryHome() {
            int s = carried;
            moveKeeper(towards(keeper, fold, lightOf(kind[s])));
            if (keeper == fold) {
                found[s] = Math.min(found[s] + 1, MOST_FOUND);
                fear[s] = 0;
                carried = NOBODY;
            }
        }

        void seek() {
            int s = sought();
            if (s == NOBODY) {
                keeper = towards(keeper, fold, 2);
                return;
            }
            keeper = towards(keeper, cell[s], 2);
            if (keeper == cell[s]) {
                carried = s;
            }
        }

        void settle() {
            for (int s = 0; s < size; s++) {
                lost[s] = cell[s] == fold ? 0 : Math.min(lost[s] + 1, MOST_LOST);
                fear[s] = Math.max(fear[s] - calmsOf(kind[s]), 0);
            }
        }
    }

    /** A row of numbers of 8, 16 or 32 bits; of 0 bits it is missing. */
    private static final class Sheet {
        int bits = 0;
        int size = 0;
        final int[] numbers = new int[SHEET_NUMBERS];

        boolean isMissing() {
            return bits == 0;
        }

        void begin(int newBits, int n) {
            bits = newBits;
            size = newBits == 0 ? 0 : n;
            for (int i = 0; i < SHEET_NUMBERS; i++) {
                numbers[i] = 0;
            }
        }

        void put(int i, int v) {
            switch (bits) {
                case 8:
                    numbers[i] = (byte) v;
                    break;
                case 16:
                    numbers[i] = (short) v;
                    break;
                default:
                    numbers[i] = v;
                    break;
            }
        }

        /** Written so that no sum of two arguments can wrap around. */
        boolean hasRun(int from, int n) {
            return from >= 0 && n >= 0 && n <= size && from <= size - n;
        }

        boolean allows(int i, int v) {
            return numbers[i] == ANY || numbers[i] == v;
        }
    }

    /** The tape, and its reader: the token that is looked at stands from place to behind. */
    private static final class Tape {
        private static final int END = 0;
        private static final int WORD = 1;
        private static final int NUMBER = 2;
        private static final int SIGN = 3;
        private static final int BLANK = 4;
        private static final int STRANGE = 5;
        private static final int MOST_NUMBER = 9999;
        private static final int NO_NUMBER = -1;

        final int[] bytes = new int[TAPE_BYTES];
        int length = 0;
        private int place = 0;
        private int behind = 0;
        private int token = END;

        boolean hasRoomFor(int n) {
            return n <= TAPE_BYTES - length;
        }

        void append(int b) {
            if (hasRoomFor(1)) {
                bytes[length] = b;
                length++;
            }
        }

        /** How many items came onto the hill, or -1 less the fault. */
        int readOnto(Hill hill) {
            behind = 0;
            nextToken();
            for (int items = 1; items <= TAPE_BYTES; items++) {
                if (!readItem(hill)) {
                    return -1 - place;
                }
                if (token == END) {
                    return items;
                }
                if (token != SIGN) {
                    return -1 - place;
                }
                nextToken();
            }
            return -1 - place;
        }

        /** Whether an item stood here; if not, place is the fault (as in all that it calls). */
        private boolean readItem(Hill hill) {
            int kind = kindOfWord();
            if (kind != NO_KIND) {
                return readSheep(hill, kind);
            }
            if (skipWord("fold")) {
                return readFold(hill);
            }
            if (skipWord("keeper")) {
                return readKeeper(hill);
            }
            if (skipWord("wolf")) {
                return readWolf(hill);
            }
            return false;
        }

        private boolean readSheep(Hill hill, int kind) {
            int s = hill.add(kind, 0);
            if (s == NOBODY) {
                return false;
            }
            nextToken();
            if (skipWord("at")) {
                int cell = takeNumber(LAST_CELL);
                if (cell == NO_NUMBER) {
                    return false;
                }
                hill.cell[s] = cell;
            }
            if (skipWord("fear")) {
                int fear = takeNumber(MOST_FEAR);
                if (fear == NO_NUMBER) {
                    return false;
                }
                hill.fear[s] = fear;
            }
            if (skipWord("lost")) {
                int lost = takeNumber(MOST_LOST);
                if (lost == NO_NUMBER) {
                    return false;
                }
                hill.lost[s] = lost;
            }
            return true;
        }

        private boolean readFold(Hill hill) {
            int cell = takeNumber(LAST_CELL);
            if (cell == NO_NUMBER) {
                return false;
            }
            hill.fold = cell;
            return true;
        }

        private boolean readKeeper(Hill hill) {
            int cell = takeNumber(LAST_CELL);
            if (cell == NO_NUMBER) {
                return false;
            }
            hill.moveKeeper(cell);
            return true;
        }

        private boolean readWolf(Hill hill) {
            int cell = takeNumber(LAST_CELL);
            if (cell == NO_NUMBER) {
                return false;
            }
            hill.wolf = cell;
            if (skipWord("pace")) {
                int pace = takeNumber(MOST_PACE);
                if (pace == NO_NUMBER) {
                    return false;
                }
                hill.pace = pace;
            }
            return true;
        }

        private int kindOfWord() {
            for (int kind = 0; kind < KINDS; kind++) {
                if (isWord(nameOf(kind))) {
                    return kind;
                }
            }
            return NO_KIND;
        }

        private static String nameOf(int kind) {
            switch (kind) {
                case RAM:
                    return "ram";
                case EWE:
                    return "ewe";
                case LAMB:
                    return "lamb";
                case ORPHAN:
                    return "orphan";
                case WANDERER:
                    return "wanderer";
                case LEADER:
                    return "leader";
                default:
                    return "sheep";
            }
        }

        private boolean isWord(String word) {
            if (token != WORD || behind - place != word.length()) {
                return false;
            }
            for (int i = 0; i < word.length(); i++) {
                if (bytes[place + i] != word.charAt(i)) {
                    return false;
                }
            }
            return true;
        }

        private boolean skipWord(String word) {
            if (!isWord(word)) {
                return false;
            }
            nextToken();
            return true;
        }

        /** NO_NUMBER, and the token stays, if it isn't a number from 0 to the most. */
        private int takeNumber(int most) {
            if (token != NUMBER) {
                return NO_NUMBER;
            }
            int number = 0;
            for (int i = place; i < behind; i++) {
                // Held just above the most: a long row of digits must not wrap around.
                number = Math.min(number * 10 + bytes[i] - '0', MOST_NUMBER + 1);
            }
            if (number > most) {
                return NO_NUMBER;
            }
            nextToken();
            return number;
        }

        private void nextToken() {
            place = behind;
            while (place < length && tokenAt(place) == BLANK) {
                place++;
            }
            token = tokenAt(place);
            if (token == END) {
                return;
            }
            behind = place + 1;
            while (behind < length && isLong(token) && tokenAt(behind) == token) {
                behind++;
            }
        }

        private static boolean isLong(int token) {
            return token == WORD || token == NUMBER;
        }

        private int tokenAt(int i) {
            if (i >= length) {
                return END;
            }
            int b = bytes[i];
            if (b >= 'a' && b <= 'z') {
                return WORD;
            }
            if (b >= '0' && b <= '9') {
                return NUMBER;
            }
            if (b == ';') {
                return SIGN;
            }
            return b == ' ' ? BLANK : STRANGE;
        }
    }
}
