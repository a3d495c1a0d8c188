/** Promises 21 and 22: cells and kinds by told ways. */
public final class WaysTest {
    private static final Check check = new Check();

    public static void main(String[] args) {
        fits();
        fitsFindings();
        kinds();
        kindsFindings();
        longestWay();
        check.end();
    }

    private static void tell(StraySheep x, int s, int bits, int... numbers) {
        x.sheet(s, bits, numbers.length);
        for (int i = 0; i < numbers.length; i++) {
            x.write(s, i, numbers[i]);
        }
    }

    private static int fits(StraySheep x, int... way) {
        tell(x, 2, 8, way);
        return x.fits(2, 0);
    }

    private static void fits() {
        StraySheep x = new StraySheep();
        x.go(1);
        x.sheep(0, 5);
        check.due("21: nothing told", fits(x), 65535);
        check.due("21: now", fits(x, 0), 65535);
        check.due("21: not now", fits(x, 1), 0);
        check.due("21: he stays", fits(x, 0, 0), 7);
        check.due("21: he goes", fits(x, 0, 2, 4), 65520);
        check.due("21: he goes to 3", fits(x, 0, 2, 3), 8);
        check.due("21: any, then 3", fits(x, -1, -1, 3), 8);
        check.due("21: back from 4", fits(x, 0, 2, 4, 2), 16);
        check.due("21: no cell", fits(x, -1, 16), 0);
        check.due("21: no cell", fits(x, -2), 0);
        check.due("21: the sheep stays where it is", x.of(0, 1), 5);
        check.due("21: the keeper, too", x.hill(1), 0);
        check.due("21: no hour went by", x.now(0), 1);
        tell(x, 3, 32, 0, 255);
        check.due("21: of 32 bits 255 is not -1", x.fits(3, 0), 0);
        tell(x, 3, 8, 0, 255);
        check.due("21: of 8 bits it is", x.fits(3, 0), 65535);
    }

    private static void fitsFindings() {
        StraySheep x = new StraySheep();
        check.due("21: no such sheet", x.fits(-1, 0), Check.BEYOND);
        check.due("21: no such sheet", x.fits(4, 0), Check.BEYOND);
        check.due("21: MISSING before no such sheep", x.fits(0, 0), Check.MISSING);
        x.sheet(0, 16, 0);
        check.due("21: no such sheep", x.fits(0, 0), Check.BEYOND);
        StraySheep y = Check.carrying(0);
        check.due("21: MISSING before STATE", y.fits(0, 0), Check.MISSING);
        y.sheet(0, 16, 0);
        check.due("21: carried", y.fits(0, 0), Check.STATE);
        check.due("21: no such sheep", y.fits(0, 1), Check.BEYOND);
        check.due("21: no such sheep", y.fits(0, -1), Check.BEYOND);
        y.sheep(0, 2);
        check.due("21: another one", y.fits(0, 1), 65535);
    }

    private static int kinds(StraySheep x, int... way) {
        tell(x, 1, 16, way);
        return x.kinds(1, 0);
    }

    private static void kinds() {
        StraySheep x = new StraySheep();
        x.sheep(2, 5);
        x.change(0, 2, 50);
        check.due("22: nothing told", kinds(x), 127);
        check.due("22: now", kinds(x, 5), 127);
        check.due("22: not now", kinds(x, 4), 0);
        check.due("22: sheep and leader", kinds(x, 5, 6), 65);
        check.due("22: ram and wanderer", kinds(x, 5, 7), 34);
        check.due("22: ewe", kinds(x, -1, 4), 4);
        check.due("22: lamb and orphan", kinds(x, 5, 3), 24);
        check.due("22: ram", kinds(x, 5, 7, 7), 2);
        check.due("22: wanderer", kinds(x, 5, -1, 9), 32);
        check.due("22: none", kinds(x, 5, 15), 0);
        x.sheep(0, 5);
        check.due("22: an orphan in company", kinds(x, 5, 5), 16);
        check.due("22: a lamb isn't kept by that", kinds(x, 5, 3), 8);
        check.due("22: its kind stays", x.of(0, 0), 2);
        check.due("22: no hour went by", x.now(0), 0);
        StraySheep y = Check.carrying(0);
        y.set(1, 10);
        check.due("22: by how heavy it is", kinds(y, 10, 9), 2 + 32 + 64);
        check.due("22: by how heavy it is", kinds(y, 10, 6), 16);
    }

    private static void kindsFindings() {
        StraySheep x = new StraySheep();
        check.due("22: no such sheet", x.kinds(-1, 0), Check.BEYOND);
        check.due("22: no such sheet", x.kinds(4, 0), Check.BEYOND);
        check.due("22: MISSING before no such sheep", x.kinds(3, 0), Check.MISSING);
        x.sheet(3, 32, 0);
        check.due("22: no such sheep", x.kinds(3, 0), Check.BEYOND);
        check.due("22: no such sheep", x.kinds(3, -1), Check.BEYOND);
    }

    private static void longestWay() {
        StraySheep x = new StraySheep();
        x.sheep(3, 4);
        x.set(2, 12);
        int[] keeper = new int[40];
        int[] cell = new int[40];
        for (int n = 0; n < 40; n++) {
            keeper[n] = x.later(1, n);
            cell[n] = x.ahead(0, 1, n);
        }
        check.yes("21: 40 numbers", (fits(x, keeper) >> 4 & 1) == 1);
        check.yes("22: 40 numbers", (kinds(x, cell) >> 3 & 1) == 1);
        keeper[39] = 15 - keeper[39];
        cell[39] = 15 - cell[39];
        check.yes("21: the last one wrong", (fits(x, keeper) >> 4 & 1) == 0);
        check.yes("22: the last one wrong", (kinds(x, cell) >> 3 & 1) == 0);
    }
}
