import java.util.NoSuchElementException;

/** The empty land and the full one: no well and 6, the month 0 and the month 600, no water and as much as there may be. */
public final class FullLandTest {
    private static final Due due = new Due("FullLandTest");

    public static void main(String[] args) {
        emptyLandOfAllMonths();
        fullLandOfAllMonths();
        callsAtTheLastMonth();
        manyEvents();
        sharesAndMeans();
        checksums();
        signsOfTheWaterThatWasSet();
        soundAtEachEdge();
        extremes();
        due.end();
    }

    private static void emptyLandOfAllMonths() {
        Aquiferward land = new Aquiferward();
        String before = Look.at(land, 0);
        for (int month = 24; month <= 600; month += 24) {
            due.is("pass(24) of the empty land", land.pass(24), month);
        }
        due.is("all behind 600 months of nothing", Look.at(land, 0), before);
        due.is("settings behind that", Look.atSettings(land, 0), Look.atSettings(new Aquiferward(), 0));
        due.is("dryShare of the empty land", land.dryShare(), 1.0f);
        due.is("meanLevel of the empty land", land.meanLevel(), 0.0);
        due.is("checksum of the empty land", land.checksum(), 0);
        due.is("isSound of the empty land", land.isSound(), true);
        due.is("events of the empty land", land.events(), 0);
        due.outOfBounds("eventAt(0) of the empty land", () -> land.eventAt(0));
        due.outOfBounds("amount(0) of the empty land", () -> land.amount(0));
        due.outOfBounds("pumpedWithout(0, 1) of the empty land", () -> land.pumpedWithout(0, 1));
        due.refused("byAge(0) of the empty land", NoSuchElementException.class, () -> land.byAge(0));
    }

    /** All that can be set as high as it can be. */
    private static Aquiferward full() {
        Aquiferward land = new Aquiferward();
        for (int column = 0; column < 8; column++) {
            land.setCell(column, 100, 50, 5000);
            land.setCell(8 + column, 100, 50, 5000);
            land.setGround(column, 200);
            land.setLeakage(column, 9);
            land.setRain(column, 99);
            land.setBed(column, 100, 9);
        }
        land.setConductance(0, 9);
        land.setConductance(1, 9);
        land.setRiver(999);
        land.setSea(9);
        for (int well = 0; well < 6; well++) {
            land.addWell(15 - 3 * well, 9999, 999);
            land.setWish(well, 99);
        }
        return land;
    }

    private static void fullLandOfAllMonths() {
        Aquiferward land = full();
        due.is("water that was set", land.account('w'), 80000);
        due.is("dryShare of the full land", land.dryShare(), 0.0f);
        due.is("meanLevel of the full land", land.meanLevel(), 200.0);
        due.refused("a seventh well", IllegalStateException.class, () -> land.addWell(15, 9999, 999));
        for (int from = 0; from < 6; from++) {
            int giver = from;
            due.unsupported("between full amounts", () -> land.transfer(giver, (giver + 1) % 6, 1));
        }
        Lands.pass(land, 600);
        due.is("account r", land.account('r'), 8 * 99 * 600);
        for (int well = 0; well < 6; well++) {
            due.is("amount of " + well, land.amount(well), 999);
            due.is("byAge(" + well + ")", land.byAge(well), well);
        }
        long came = land.account('w') + land.account('r') + land.account('i') + land.account('n');
        long went = land.account('p') + land.account('o') + land.account('s') + land.account('m');
        due.is("the books close", came - went, Lands.waterInAll(land));
        due.is("the river's books close", land.account('l'), 999 * 600 - land.account('i') + land.account('o'));
        due.is("sound", land.isSound(), true);
    }

    /** But for pass, all calls are still answered at the month 600. */
    private static void callsAtTheLastMonth() {
        Aquiferward land = Lands.still();
        land.setCell(3, 0, 50, 5000);
        land.addWell(3, 0, 9);
        land.setWish(0, 1);
        Lands.pass(land, 600);
        due.is("pumped", land.pumped(0), 9 * 50);
        due.is("yearly", land.yearly(0), 0);
        due.is("setCell", land.setCell(3, 0, 50, 1), 5000 - 450);
        due.is("addWell", land.addWell(3, 0, 5), 1);
        due.is("setWish", land.setWish(1, 9), 0);
        due.is("transfer", land.transfer(0, 1, 9), 0);
        due.is("amount", land.amount(1), 14);
        due.is("pumpedWithout", land.pumpedWithout(0, 1), 450);
        due.is("setGround", land.setGround(0, 1), 100);
        due.is("setSea", land.setSea(1), 0);
        due.refused("pass", ArithmeticException.class, () -> land.pass(1));
        due.is("sound", land.isSound(), true);
    }

    /** As many events as 8 dry beds and 6 dry wells make: 14 in each month, till the rights are forfeited at once. */
    private static void manyEvents() {
        Aquiferward land = Lands.still();
        int[] cells = {0, 3, 6, 8, 11, 14};
        for (int column = 0; column < 8; column++) {
            land.setBed(column, 100, 9);
        }
        for (int well = 0; well < 6; well++) {
            land.addWell(cells[well], 3, 999);
            land.setWish(well, 99);
        }
        Lands.pass(land, 600);
        int behindThreeYears = 36 * 14 + 6;
        due.is("events", land.events(), behindThreeYears + (600 - 36) * 8);
        for (int at = 0; at < behindThreeYears + 16; at += at < 30 || at >= 36 * 14 - 3 ? 1 : 7) {
            char want = at >= behindThreeYears ? 'd' : at >= 36 * 14 ? 'f' : at % 14 < 6 ? 'c' : 'd';
            due.is("event " + at, land.eventAt(at), want);
        }
        due.is("the last event", land.eventAt(land.events() - 1), 'd');
        due.outOfBounds("one behind the last event", () -> land.eventAt(land.events()));
        due.is("sound", land.isSound(), true);
    }

    /** "Their number divided by 16", "the sum divided by 16": the least, the greatest and both next to them. */
    private static void sharesAndMeans() {
        Aquiferward low = new Aquiferward();
        Aquiferward high = new Aquiferward();
        for (int cell = 0; cell < 16; cell++) {
            due.is("dryShare behind " + cell, high.dryShare(), (float) (16 - cell) / 16f);
            due.is("meanLevel behind " + cell + " low ones", low.meanLevel(), (double) (-100 * cell) / 16.0);
            due.is("meanLevel behind " + cell + " high ones", high.meanLevel(), (double) (5100 * cell) / 16.0);
            low.setCell(cell, -100, 50, 0);
            high.setCell(cell, 100, 1, 5000);
        }
        due.is("dryShare of dry cells below 0", low.dryShare(), 1.0f);
        due.is("meanLevel of the lowest land", low.meanLevel(), -100.0);
        due.is("dryShare of the fullest land", high.dryShare(), 0.0f);
        due.is("meanLevel of the fullest land", high.meanLevel(), 5100.0);
        low.setCell(7, -99, 50, 49);
        due.is("meanLevel a sixteenth above", low.meanLevel(), -99.9375);
        due.is("dryShare without one", low.dryShare(), 0.9375f);
        low.setCell(7, -99, 50, 1);
        due.is("dryShare with a single unit", low.dryShare(), 0.9375f);
        low.setCell(7, -99, 50, 0);
        due.is("dryShare with none", low.dryShare(), 1.0f);
    }

    /** "31 times itself plus the water, plus 7 times the salt": for each cell alone, and round the end of a long. */
    private static void checksums() {
        long power = 1;
        for (int cell = 15; cell >= 0; cell--) {
            Aquiferward land = new Aquiferward();
            land.setCell(cell, 0, 10, 5000);
            due.is("checksum of " + cell, land.checksum(), 5000 * power);
            land.setCell(cell, 0, 10, 1);
            due.is("checksum of one unit in " + cell, land.checksum(), power);
            power *= 31;
        }
        long sum = 0;
        Aquiferward full = new Aquiferward();
        for (int cell = 0; cell < 16; cell++) {
            full.setCell(cell, 0, 10, 5000);
            sum = 31 * sum + 5000;
        }
        due.is("checksum of full cells", full.checksum(), sum);
        Aquiferward salty = Lands.salty(8, 1, 50);
        long first = 1;
        for (int cell = 8; cell < 15; cell++) {
            first *= 31;
        }
        due.is("checksum with a unit of sea water", salty.checksum(), (1 + 7 * 35) * first);
    }

    /** "Water that was set, less what there was ahead of it", which may be below 0 in all. */
    private static void signsOfTheWaterThatWasSet() {
        Aquiferward land = Lands.still();
        land.setRain(4, 30);
        land.pass(1);
        due.is("account w of rain", land.account('w'), 0);
        land.setCell(4, 0, 10, 30);
        due.is("account w of as much as there was", land.account('w'), 0);
        land.setCell(4, 0, 10, 29);
        due.is("account w of one unit less", land.account('w'), -1);
        land.setCell(4, 0, 10, 0);
        due.is("account w of nothing", land.account('w'), -30);
        due.is("sound below 0", land.isSound(), true);
        land.setCell(4, 0, 10, 5000);
        due.is("account w of all", land.account('w'), 4970);
        land.setCell(4, 0, 10, 0);
        land.setCell(5, 0, 10, 31);
        due.is("account w of both cells", land.account('w'), 1);
    }

    /** "Transfers aside": an amount that was given away, forfeited or used up, and cells that are emptied, are sound. */
    private static void soundAtEachEdge() {
        Aquiferward land = Lands.still();
        land.setCell(0, 0, 50, 5000);
        land.addWell(0, 0, 999);
        land.addWell(0, 0, 0);
        land.setWish(0, 99);
        land.setWish(1, 99);
        land.pass(11);
        due.is("sound with all of the amount pumped", land.isSound(), true);
        land.transfer(0, 1, 999);
        due.is("sound with all of it given away", land.isSound(), true);
        land.pass(1);
        due.is("sound behind the year", land.isSound(), true);
        land.transfer(1, 0, 999);
        land.pass(6);
        land.transfer(0, 1, 999);
        land.pass(1);
        land.transfer(1, 0, 999);
        due.is("sound with an amount that went to and fro", land.isSound(), true);
        due.is("yearly of the first", land.yearly(0), 594);
        due.is("yearly of the second", land.yearly(1), 99);
        land.setCell(0, -100, 1, 0);
        due.is("sound with an empty cell", land.isSound(), true);
        land.pass(24);
        land.pass(24);
        due.is("sound with a forfeited right", land.isSound(), true);
        due.is("the forfeited right", land.amount(0), 0);
    }

    /** Each thing that is set at its least or at its greatest, in all 8192 ways, against the slow model of the document. */
    private static void extremes() {
        for (int way = 0; way < 1 << 13; way++) {
            Aquiferward land = new Aquiferward();
            Model model = new Model();
            int[] set = new int[13];
            int[] least = {-100, 1, 0, 0, 0, -100, 0, 0, -100, 0, 0, 0, 0};
            int[] most = {100, 50, 5000, 99, 999, 100, 9, 9, 200, 9, 9, 99, 999};
            for (int at = 0; at < 13; at++) {
                set[at] = (way >> at & 1) == 0 ? least[at] : most[at];
            }
            setExtremes(land, model, set);
            for (int months : new int[] {1, 11, 24}) {
                due.is("month in the way " + way, land.pass(months), model.pass(months));
                due.is("checksum in the way " + way, land.checksum(), model.checksum());
                due.is("events in the way " + way, land.events(), model.events());
            }
            for (char what : "wrpiosnml".toCharArray()) {
                due.is("account " + what + " in the way " + way, land.account(what), model.account(what));
            }
            due.is("pumped in the way " + way, land.pumped(0), model.pumped(0));
            due.is("amount in the way " + way, land.amount(0), model.amount(0));
            due.is("sound in the way " + way, land.isSound(), true);
        }
    }

    /** The settings for all of the land, but for the cells, of which each third one stays as it is at first. */
    private static void setExtremes(Aquiferward land, Model model, int[] set) {
        for (int cell = 0; cell < 16; cell++) {
            if (cell % 3 != 2) {
                land.setCell(cell, set[0], set[1], set[2]);
                model.setCell(cell, set[0], set[1], set[2]);
            }
        }
        for (int column = 0; column < 8; column++) {
            land.setRain(column, set[3]);
            model.setRain(column, set[3]);
            land.setBed(column, set[5], set[6]);
            model.setBed(column, set[5], set[6]);
            land.setGround(column, set[8]);
            model.setGround(column, set[8]);
            land.setLeakage(column, set[9]);
            model.setLeakage(column, set[9]);
        }
        land.setRiver(set[4]);
        model.setRiver(set[4]);
        land.setSea(set[7]);
        model.setSea(set[7]);
        for (int layer = 0; layer < 2; layer++) {
            land.setConductance(layer, set[10]);
            model.setConductance(layer, set[10]);
        }
        for (int well = 0; well < 6; well++) {
            land.addWell(3 * well, well % 2, set[12]);
            model.addWell(3 * well, well % 2, set[12]);
            land.setWish(well, set[11]);
            model.setWish(well, set[11]);
        }
    }
}
