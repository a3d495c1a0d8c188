/** Promises 23 to 25: nights by draws, odds, z. */
public final class NightsTest {
    private static final Check check = new Check();

    public static void main(String[] args) {
        nights();
        nightsWrong();
        odds();
        seed();
        check.end();
    }

    private static StraySheep oneSheepAt(int cell) {
        StraySheep x = new StraySheep();
        x.go(1);
        x.sheep(0, cell);
        return x;
    }

    /** From z 1 the draws give 14 and 2, then 4 and 5 (by 16 and by 6). */
    private static void nights() {
        StraySheep x = oneSheepAt(11);
        check.due("23: the first night", x.nights(1), 9);
        check.due("23: the wolf", x.hill(2), 12);
        check.due("23: its pace", x.hill(3), 2);
        check.due("23: z", x.count(6), -1770082073);
        check.due("23: an hour went by", x.now(0), 2);
        check.due("23: the second night", x.nights(1), 18);
        check.due("23: the wolf", x.hill(2), 9);
        check.due("23: its pace", x.hill(3), 5);
        check.due("23: z", x.count(6), -999580867);
        StraySheep y = oneSheepAt(11);
        check.due("23: both at once", y.nights(2), 18);
        check.due("23: two hours", y.now(0), 3);
        check.due("23: as one by one", y.hill(2), 9);
        StraySheep z = new StraySheep();
        z.seed(-5);
        check.due("23: no sheep, no fear", z.nights(1), 0);
        check.due("23: the wolf where it was drawn", z.hill(2), 8);
        check.due("23: its pace", z.hill(3), 4);
        StraySheep twenty = new StraySheep();
        twenty.nights(20);
        check.due("23: twenty nights", twenty.now(0), 20);
    }

    private static void nightsWrong() {
        StraySheep x = oneSheepAt(11);
        int[] wrong = {0, -1, 21, Integer.MIN_VALUE};
        for (int n : wrong) {
            check.due("23: nights(" + n + ")", x.nights(n), Check.BEYOND);
        }
        check.due("23: nothing drawn", x.count(6), 1);
        check.due("23: no wolf came", x.hill(2), -1);
        check.due("23: no hour went by", x.now(0), 1);
    }

    private static void odds() {
        long[] above = {13, 3, 11, 11, 11, 11, 11, 11, 11, 11, 11, 11, 11, 11, 3, 13};
        long[] below = {16, 4, 16, 16, 16, 16, 16, 16, 16, 16, 16, 16, 16, 16, 4, 16};
        for (int cell = 0; cell < 16; cell++) {
            StraySheep x = oneSheepAt(cell);
            long a = 1;
            long b = 1;
            for (int n = 0; n <= 15; n++) {
                check.due("24: above, cell " + cell + ", n " + n, x.odds(0, n, 0), a);
                check.due("24: below, cell " + cell + ", n " + n, x.odds(0, n, 1), b);
                a *= above[cell];
                b *= below[cell];
            }
        }
        StraySheep x = oneSheepAt(8);
        check.due("24: above the line", x.odds(0, 15, 0), 4177248169415651L);
        check.due("24: below the line", x.odds(0, 15, 1), 1152921504606846976L);
        check.due("24: nothing is drawn", x.count(6), 1);
        int[][] wrong = {{-1, 0, 0}, {1, 0, 0}, {0, -1, 0}, {0, 16, 0}, {0, 0, -1}, {0, 0, 2}};
        for (int[] w : wrong) {
            check.due("24: odds(" + w[0] + ", " + w[1] + ", " + w[2] + ")",
                    x.odds(w[0], w[1], w[2]), -1000001L);
        }
    }

    private static void seed() {
        StraySheep x = new StraySheep();
        check.due("25: at first", x.seed(-1000001), 1);
        check.due("25: any int", x.count(6), -1000001);
        check.due("25: what it was", x.seed(Integer.MIN_VALUE), -1000001);
        check.due("25: what it was", x.seed(0), Integer.MIN_VALUE);
        check.due("25: that is no finding", x.status(-1), 0);
    }
}
