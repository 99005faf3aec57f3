/** Promises 26 to 29: sums, shares and means over all cells, and whether all is sound. */
public final class FiguresTest {
    private static final Due due = new Due("FiguresTest");

    public static void main(String[] args) {
        checksum();
        dryShare();
        meanLevel();
        isSound();
        manyCalls();
        due.end();
    }

    private static void checksum() {
        Aquiferward land = new Aquiferward();
        due.is("checksum of an empty land", land.checksum(), 0);
        land.setCell(15, 0, 10, 5);
        due.is("checksum of the last cell", land.checksum(), 5);
        land.setCell(14, 0, 10, 7);
        due.is("checksum of the last two", land.checksum(), 7 * 31 + 5);
        land.setCell(0, 0, 10, 5000);
        long want = 5000;
        for (int cell = 1; cell < 16; cell++) {
            want *= 31;
        }
        due.is("checksum that goes round", land.checksum(), want + 7 * 31 + 5);
        Aquiferward salty = new Aquiferward();
        salty.setConductance(1, 0);
        salty.setCell(8, -10, 50, 0);
        salty.setSea(4);
        salty.pass(1);
        due.is("checksum with salt", salty.checksum(), (10 + 7 * 350) * 27512614111L);
    }

    private static void dryShare() {
        Aquiferward land = new Aquiferward();
        for (int cell = 0; cell < 16; cell++) {
            due.is("dryShare with " + cell + " wet cells", land.dryShare(), (16 - cell) / 16.0f);
            land.setCell(cell, -50, 50, 1);
        }
        due.is("dryShare of a wet land", land.dryShare(), 0.0f);
    }

    private static void meanLevel() {
        Aquiferward land = new Aquiferward();
        due.is("meanLevel at first", land.meanLevel(), 0.0);
        land.setCell(3, -1, 10, 0);
        due.is("meanLevel below 0", land.meanLevel(), -0.0625);
        land.setCell(9, 100, 1, 5000);
        due.is("meanLevel of a full cell", land.meanLevel(), 5099 / 16.0);
        land.setCell(10, 0, 10, 19);
        due.is("meanLevel of rounded levels", land.meanLevel(), 5100 / 16.0);
        land.setCell(0, 20, 10, 10);
        land.setCell(15, 30, 10, 10);
        due.is("meanLevel with the first and the last cell", land.meanLevel(), 5152 / 16.0);
    }

    private static void isSound() {
        Aquiferward land = new Aquiferward();
        due.is("sound at first", land.isSound(), true);
        for (int column = 0; column < 8; column++) {
            land.setRain(column, 11 * column);
            land.setLeakage(column, column);
            land.setBed(column, 2 * column, column);
            land.setGround(column, 3 * column);
            land.setCell(column, column - 4, column + 1, 100 * column);
        }
        land.setRiver(50);
        land.setSea(9);
        for (int well = 0; well < 6; well++) {
            land.addWell(3 * well, well % 3, 100 * well);
            land.setWish(well, 9 * well);
        }
        for (int year = 0; year < 10; year++) {
            due.is("sound in the year " + year, land.isSound(), true);
            land.transfer(1 + year % 5, year % 5, 3);
            due.is("sound behind a transfer in the year " + year, land.isSound(), true);
            land.setCell(year, 0, 7, 50 * year);
            land.pass(12);
        }
        due.is("sound at the end", land.isSound(), true);
    }

    /** All that an object may be asked in its 512 calls, each of them one that is kept. */
    private static void manyCalls() {
        Aquiferward land = new Aquiferward();
        land.addWell(0, 0, 999);
        land.addWell(0, 1, 999);
        int calls = 2;
        while (calls < 509) {
            land.setWish(calls % 2, calls % 100);
            land.setCell(0, 0, 10, calls % 300);
            land.pass(1);
            calls += 3;
        }
        due.is("sound behind 509 calls", land.isSound(), true);
        callsBehindTheLast();
    }

    /** What calls behind the 512th one answer is free, but each of them ends without an exception of the machine. */
    private static void callsBehindTheLast() {
        Aquiferward land = new Aquiferward();
        land.addWell(0, 0, 999);
        land.addWell(1, 0, 999);
        for (int call = 0; call < 2000; call++) {
            land.setRain(call % 8, call % 100);
            land.setWish(call % 2, call % 100);
        }
        land.pass(24);
        land.pumpedWithout(0, 1);
        land.isSound();
        due.is("calls behind the 512th one end", true, true);
    }
}
