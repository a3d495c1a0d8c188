import java.math.BigInteger;

/** The document's draws and promises 23 to 25: nights, odds, z. */
public final class NightsTest {
    private static final Check check = new Check();

    public static void main(String[] args) {
        draws();
        drawsWrapAround();
        nights();
        nightsOneByOne();
        odds();
        oddsOfNone();
        oddsReach();
        greatestOdds();
        seed();
        check.end();
    }

    /** z behind a draw, kept to 32 bits with its sign, without a machine's wrap-around. */
    private static int drawnFrom(int z) {
        BigInteger range = BigInteger.TWO.pow(32);
        BigInteger next = BigInteger.valueOf(z).multiply(BigInteger.valueOf(1103515245))
                .add(BigInteger.valueOf(12345)).mod(range);
        return (next.bitLength() == 32 ? next.subtract(range) : next).intValueExact();
    }

    /** What a draw gives: the 24 highest of z's 32 bits. */
    private static int given(int z) {
        return (int) ((z < 0 ? z + 4294967296L : z) / 256);
    }

    private static StraySheep oneSheepAt(int cell) {
        StraySheep x = Hills.quiet();
        x.sheep(0, cell);
        return x;
    }

    private static void draws() {
        check.says("DRAWS: z is told (1 at first); each makes it z * 1103515245 + 12345 (an int), and gives z >>> 8.");
        check.due("at first", new StraySheep().count(6), 1);
        StraySheep x = new StraySheep();
        x.nights(1);
        // 1103527590 and 2524885223 (as an int -1770082073), by 256: 4310654 and 9862832.
        check.due("z behind two draws", x.count(6), -1770082073);
        check.due("4310654 by 16", x.hill(2), 14);
        check.due("9862832 by 6", x.hill(3), 2);
    }

    private static void drawsWrapAround() {
        check.says("each makes it z * 1103515245 + 12345 (an int), and gives z >>> 8: from any int");
        int[] seeds = {0, 1, -1, 2, -5, 77, 65536, 16777216, -16777216, Integer.MAX_VALUE, Integer.MIN_VALUE,
            Integer.MAX_VALUE - 1, Integer.MIN_VALUE + 1, -1000001, 1103515245, -1103515245};
        for (int seed : seeds) {
            StraySheep x = new StraySheep();
            x.seed(seed);
            int z = seed;
            for (int night = 1; night <= 10; night++) {
                x.nights(1);
                z = drawnFrom(z);
                int cell = given(z) % 16;
                z = drawnFrom(z);
                check.due("z behind night " + night + " from " + seed, x.count(6), z);
                check.due("the wolf", x.hill(2), cell);
                check.due("its pace", x.hill(3), given(z) % 6);
            }
        }
    }

    private static void nights() {
        check.says("n times (1 to 20) two draws: THE WOLF is AT the CELL of the first one's rest by 16, "
                + "PACE is the second one's rest by 6; then an HOUR: FEAR of all together then.");
        StraySheep x = oneSheepAt(11);
        check.due("the first night: from 14, pace 2", x.nights(1), 9);
        check.due("the wolf", x.hill(2), 12);
        check.due("its pace", x.hill(3), 2);
        check.due("the hour", x.now(0), 2);
        check.due("the second night: from 4, pace 5", x.nights(1), 18);
        check.due("the wolf", x.hill(2), 9);
        check.due("its pace", x.hill(3), 5);
        StraySheep y = oneSheepAt(11);
        y.sheep(0, 9);
        y.change(1, 2, 50);
        check.due("fear of all together", y.nights(1), 9 + 49);
        check.due("without sheep", new StraySheep().nights(20), 0);
    }

    private static void nightsOneByOne() {
        check.says("n times (1 to 20)");
        for (int n = 1; n <= 20; n++) {
            StraySheep x = oneSheepAt(11);
            StraySheep y = oneSheepAt(11);
            int fear = 0;
            for (int night = 0; night < n; night++) {
                fear = y.nights(1);
            }
            check.due(n + " at once", x.nights(n), fear);
            check.due("hours", x.now(0), 1 + n);
            check.due("z", x.count(6), y.count(6));
            check.due("the wolf", x.hill(2), y.hill(2));
            check.due("its pace", x.hill(3), y.hill(3));
            check.due("the sheep", x.of(0, 1), y.of(0, 1));
            check.due("the keeper", x.hill(1), y.hill(1));
        }
    }

    /** Of the 16 cells a wolf's draw misses 13 for a sheep at an end, 12 beside that, else 11. */
    private static void odds() {
        check.says("The odds that by none of n (0 to 15) such first draws THE WOLF is 2 CELLS or less from a SHEEP, "
                + "as all are now: a fraction in lowest terms: above (what 0), below the line (1).");
        long[] above = {13, 3, 11, 11, 11, 11, 11, 11, 11, 11, 11, 11, 11, 11, 3, 13};
        long[] below = {16, 4, 16, 16, 16, 16, 16, 16, 16, 16, 16, 16, 16, 16, 4, 16};
        for (int cell = 0; cell < 16; cell++) {
            StraySheep x = oneSheepAt(cell);
            long a = 1;
            long b = 1;
            for (int n = 0; n <= 15; n++) {
                check.due("above, cell " + cell + ", n " + n, x.odds(0, n, 0), a);
                check.due("below, cell " + cell + ", n " + n, x.odds(0, n, 1), b);
                a *= above[cell];
                b *= below[cell];
            }
        }
    }

    private static void oddsOfNone() {
        check.says("by none of n (0 to 15) such first draws: 0");
        StraySheep x = oneSheepAt(8);
        check.due("above", x.odds(0, 0, 0), 1);
        check.due("below", x.odds(0, 0, 1), 1);
    }

    private static void oddsReach() {
        check.says("as all are now");
        StraySheep x = oneSheepAt(8);
        x.sheep(0, 0);
        x.set(2, 8);
        x.set(3, 5);
        x.seed(5);
        check.due("of the first", x.odds(0, 1, 0), 11);
        check.due("of the second", x.odds(1, 1, 0), 13);
        x.change(0, 1, 1);
        check.due("of one that was moved", x.odds(0, 1, 0), 3);
        check.due("no draw is made", x.count(6), 5);
        check.due("the wolf stays", x.hill(2), 8);
        check.due("no hour goes by", x.now(0), 1);
    }

    private static void greatestOdds() {
        check.says("long odds: above and below the line, however great");
        StraySheep x = oneSheepAt(8);
        check.due("11 by itself 15 times", x.odds(0, 15, 0), 4177248169415651L);
        check.due("16 by itself 15 times", x.odds(0, 15, 1), 1152921504606846976L);
        x.change(0, 1, 15);
        check.due("13 by itself 15 times", x.odds(0, 15, 0), 51185893014090757L);
        x.change(0, 1, 14);
        check.due("3 by itself 15 times", x.odds(0, 15, 0), 14348907L);
        check.due("4 by itself 15 times", x.odds(0, 15, 1), 1073741824L);
    }

    private static void seed() {
        check.says("z becomes v: what it was. What seed() and count(6) tell, z, may be any int: that is no finding.");
        StraySheep x = new StraySheep();
        int[] seeds = {-1000001, -1000002, -1000007, -1000008, Integer.MIN_VALUE, Integer.MAX_VALUE, 0, -1, 1};
        int was = 1;
        for (int z : seeds) {
            check.due("what it was", x.seed(z), was);
            check.due("what it is", x.count(6), z);
            was = z;
        }
        check.due("findings", x.status(-1), 0);
    }
}
