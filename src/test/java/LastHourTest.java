/**
 * STATE: HOUR would be above 99999 (promises 9 and 23), and HOUR's own limit. No 512 calls come
 * that far, and what later calls answer is free: so only this program's own way is tested here.
 */
public final class LastHourTest {
    private static final Check check = new Check();

    public static void main(String[] args) {
        go();
        nights();
        whatWillBe();
        check.end();
    }

    private static StraySheep atHour(int hour) {
        StraySheep x = new StraySheep();
        for (int left = hour; left > 0; left -= 60) {
            x.go(Math.min(left, 60));
        }
        return x;
    }

    private static void go() {
        check.says("go: BEYOND. STATE: HOUR would be above 99999.");
        StraySheep x = atHour(99960);
        check.due("to 100000", x.go(40), Check.STATE);
        check.due("BEYOND is asked first", x.go(61), Check.BEYOND);
        check.due("no hour went by", x.now(0), 99960);
        check.due("to 99999", x.go(39), 0);
        check.due("the hour", x.now(0), 99999);
        check.due("to 100000", x.go(1), Check.STATE);
    }

    private static void nights() {
        check.says("nights: BEYOND. STATE: HOUR would be above 99999.");
        StraySheep x = atHour(99989);
        check.due("to 100000", x.nights(11), Check.STATE);
        check.due("BEYOND is asked first", x.nights(21), Check.BEYOND);
        check.due("nothing was drawn", x.count(6), 1);
        check.due("to 99999", x.nights(10), 0);
        check.due("the hour", x.now(0), 99999);
        check.due("to 100000", x.nights(1), Check.STATE);
    }

    /** 99999 is a multiple of 3, at which it stays: so a plain sheep goes on every hour. */
    private static void whatWillBe() {
        check.says("HOUR is one more (99999 at most).");
        StraySheep x = atHour(99999);
        x.sheep(0, 0);
        check.due("behind 1", x.ahead(0, 1, 1), 1);
        check.due("behind 2", x.ahead(0, 1, 2), 2);
        check.due("behind 3", x.ahead(0, 1, 3), 3);
    }
}
