/** Promises 21 and 22: cells and kinds by told ways. */
public final class WaysTest {
    private static final Check check = new Check();

    public static void main(String[] args) {
        fits();
        fitsAny();
        fitsNoWay();
        fitsCarried();
        fitsLongestWay();
        kinds();
        kindsAny();
        kindsNoWay();
        kindsOfCarried();
        kindsLongestWay();
        nothingChanges();
        check.end();
    }

    private static int fits(StraySheep x, int... way) {
        Hills.tell(x, 2, 8, way);
        return x.fits(2, 0);
    }

    private static int kinds(StraySheep x, int... way) {
        Hills.tell(x, 1, 16, way);
        return x.kinds(1, 0);
    }

    /** HOUR 1, the keeper AT the fold in cell 0, a sheep that stays where it is until hour 3. */
    private static StraySheep quietSheep() {
        StraySheep x = Hills.quiet();
        x.sheep(0, 5);
        return x;
    }

    private static void fits() {
        check.says("CELLS AT which a SHEEP could be now, as a set, so that THE KEEPER is now and behind each HOUR "
                + "further on AT where a sheet tells");
        StraySheep x = quietSheep();
        check.due("he is where it tells now", fits(x, 0), 65535);
        check.due("he isn't", fits(x, 1), 0);
        check.due("he stays for none within 2 cells", fits(x, 0, 0), 7);
        check.due("he goes for all others", fits(x, 0, 2), 65528);
        check.due("he goes on to 3", fits(x, 0, 2, 3), 8);
        check.due("he goes on to 4", fits(x, 0, 2, 4), 65520);
        check.due("he comes back from 4", fits(x, 0, 2, 4, 2), 16);
        check.due("he goes on to 6, as one at 5 goes there first", fits(x, 0, 2, 4, 6), 65504);
        check.due("so for none to 5", fits(x, 0, 2, 4, 5), 0);
        check.due("never as far at once", fits(x, 0, 3), 0);
        check.due("the first number counts, too", fits(x, 1, 2), 0);
    }

    private static void fitsAny() {
        check.says("fits: a sheet tells (-1: any)");
        StraySheep x = quietSheep();
        check.due("any now", fits(x, -1), 65535);
        check.due("any but behind 2 hours", fits(x, -1, -1, 3), 8);
        check.due("any in between", fits(x, 0, -1, 4), 65520);
        check.due("any behind that", fits(x, 0, 0, -1), 7);
        Hills.tell(x, 3, 8, 0, 255);
        check.due("255 of 8 bits", x.fits(3, 0), 65535);
        Hills.tell(x, 3, 16, 0, 65535);
        check.due("65535 of 16 bits", x.fits(3, 0), 65535);
        Hills.tell(x, 3, 32, 0, -1);
        check.due("-1 of 32 bits", x.fits(3, 0), 65535);
        Hills.tell(x, 3, 32, 0, 255);
        check.due("255 of 32 bits", x.fits(3, 0), 0);
    }

    private static void fitsNoWay() {
        check.says("fits: AT where a sheet tells, which may be no CELL, or nothing");
        StraySheep x = quietSheep();
        check.due("nothing told", fits(x), 65535);
        check.due("16", fits(x, -1, 16), 0);
        check.due("-2", fits(x, -2), 0);
        check.due("the greatest of 16 bits", kinds(x, 32767), 0);
    }

    private static void fitsCarried() {
        check.says("fits: STATE: it is CARRIED.");
        StraySheep x = Hills.carrying(0, 9);
        x.sheep(0, 2);
        Hills.tell(x, 0, 8, 9, 7);
        check.due("the carried one", x.fits(0, 0), Check.STATE);
        check.due("another one, which could be anywhere", x.fits(0, 1), 65535);
    }

    private static StraySheep wayOfForty() {
        StraySheep x = new StraySheep();
        x.sheep(3, 4);
        x.set(2, 12);
        return x;
    }

    private static void fitsLongestWay() {
        check.says("fits: now and behind each HOUR further on: 40 numbers");
        int[] keeper = new int[40];
        StraySheep way = wayOfForty();
        keeper[0] = way.hill(1);
        for (int n = 1; n < 40; n++) {
            way.go(1);
            keeper[n] = way.hill(1);
        }
        for (int n = 0; n < 40; n++) {
            StraySheep x = wayOfForty();
            check.yes("as it comes", (fits(x, keeper) >> 4 & 1) == 1);
            x.write(2, n, keeper[n] + 1);
            check.yes("another cell behind " + n, (x.fits(2, 0) >> 4 & 1) == 0);
        }
    }

    /** HOUR 0, a sheep AT 5 and afraid: what it is tells where it goes. */
    private static StraySheep afraid() {
        StraySheep x = new StraySheep();
        x.sheep(2, 5);
        x.change(0, 2, 50);
        return x;
    }

    private static void kinds() {
        check.says("KINDS that it could be of, as a set, so that the CELL of it now and behind each HOUR further on "
                + "is as a sheet tells");
        StraySheep x = afraid();
        check.due("it is where it tells now", kinds(x, 5), 127);
        check.due("it isn't", kinds(x, 4), 0);
        check.due("sheep and leader", kinds(x, 5, 6), 1 + 64);
        check.due("ram and wanderer", kinds(x, 5, 7), 2 + 32);
        check.due("ewe", kinds(x, 5, 4), 4);
        check.due("lamb and orphan", kinds(x, 5, 3), 8 + 16);
        check.due("ram", kinds(x, 5, 7, 7), 2);
        check.due("wanderer", kinds(x, 5, 7, 9), 32);
        check.due("the first number counts, too", kinds(x, 6, 6), 0);
        x.sheep(0, 5);
        check.due("an orphan in company", kinds(x, 5, 5), 16);
        check.due("a lamb isn't kept by that", kinds(x, 5, 3), 8);
    }

    private static void kindsAny() {
        check.says("kinds: a sheet tells (-1: any)");
        StraySheep x = afraid();
        check.due("any now", kinds(x, -1), 127);
        check.due("any, then 4", kinds(x, -1, 4), 4);
        check.due("any in between", kinds(x, 5, -1, 9), 32);
        check.due("65535 of 16 bits", kinds(x, 5, 65535), 127);
        Hills.tell(x, 0, 32, 5, 65535);
        check.due("65535 of 32 bits", x.kinds(0, 0), 0);
    }

    private static void kindsNoWay() {
        check.says("kinds: the CELL of it is as a sheet tells, which may be no CELL, or nothing");
        StraySheep x = afraid();
        check.due("nothing told", kinds(x), 127);
        check.due("16", kinds(x, 5, 16), 0);
        check.due("-2", kinds(x, -2), 0);
    }

    private static void kindsOfCarried() {
        check.says("KINDS that it could be of: one that is carried, too");
        StraySheep x = Hills.carrying(0, 10);
        check.due("9 behind an hour", kinds(x, 10, 9), 2 + 32 + 64);
        check.due("8", kinds(x, 10, 8), 1 + 4);
        check.due("7", kinds(x, 10, 7), 8);
        check.due("6", kinds(x, 10, 6), 16);
    }

    private static void kindsLongestWay() {
        check.says("kinds: now and behind each HOUR further on: 40 numbers");
        int[] cell = new int[40];
        StraySheep way = wayOfForty();
        cell[0] = way.of(0, 1);
        for (int n = 1; n < 40; n++) {
            way.go(1);
            cell[n] = way.of(0, 1);
        }
        for (int n = 0; n < 40; n++) {
            StraySheep x = wayOfForty();
            check.yes("as it comes", (kinds(x, cell) >> 3 & 1) == 1);
            x.write(1, n, cell[n] + 1);
            check.yes("another cell behind " + n, (x.kinds(1, 0) >> 3 & 1) == 0);
        }
    }

    private static void nothingChanges() {
        check.says("CELLS AT which a SHEEP could be now; KINDS that it could be of: none becomes so");
        StraySheep x = afraid();
        fits(x, 0, -1, -1);
        kinds(x, 5, -1, -1);
        check.due("its kind", x.of(0, 0), 2);
        check.due("its cell", x.of(0, 1), 5);
        check.due("its fear", x.of(0, 2), 50);
        check.due("how long it is lost", x.of(0, 3), 0);
        check.due("the keeper", x.hill(1), 0);
        check.due("the hour", x.now(0), 0);
    }
}
