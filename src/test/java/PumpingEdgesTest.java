/** The edges of wells, of pumping, of calls that shut younger wells, and of transfers. */
public final class PumpingEdgesTest {
    private static final Due due = new Due("PumpingEdgesTest");

    public static void main(String[] args) {
        atMostSixWells();
        wishAndAmount();
        wishAndWater();
        amountAndWater();
        nothingLeftIsNoCall();
        amountOfAYear();
        theOlderRightGoesFirst();
        ofAlikeYearsTheLowerNumber();
        sixWellsInACell();
        whichCellsAreReached();
        whichRightsAreReached();
        shutInTheSameMonth();
        shutTillTheYearEnds();
        shutWhateverIsSet();
        callInTheLastMonth();
        shutOnesDoNotCall();
        severalCallInAMonth();
        aCallOfEachMonth();
        transferOfAllAndOfMore();
        transferUpTo999();
        transferToItself();
        transferKeepsWhatWasPumped();
        transferLeavesJustNothing();
        due.end();
    }

    /** A still land with a single well, of the year 0, in the cell 5. */
    private static Aquiferward withWell(int water, int amount, int wish) {
        Aquiferward land = Lands.still();
        land.setCell(5, 0, 50, water);
        land.addWell(5, 0, amount);
        land.setWish(0, wish);
        return land;
    }

    /** "At most 6 wells are numbered from 0, each in a cell, with a right". */
    private static void atMostSixWells() {
        Aquiferward land = new Aquiferward();
        for (int well = 0; well < 6; well++) {
            due.is("addWell", land.addWell(3 * well, 9999 - well, 999 - well), well);
        }
        due.refused("a seventh one", IllegalStateException.class, () -> land.addWell(0, 0, 0));
        for (int well = 0; well < 6; well++) {
            due.is("amount of " + well, land.amount(well), 999 - well);
            due.is("byAge(" + well + ")", land.byAge(well), 5 - well);
            due.is("first wish of " + well, land.setWish(well, 1), 0);
        }
    }

    /** "Each pumps its wish, but no more than is left of its amount in this year". */
    private static void wishAndAmount() {
        int[][] rows = {
            // amount, wish, then what is pumped behind one month, two and three
            {9, 10, 9, 9, 9}, {10, 10, 10, 10, 10}, {11, 10, 10, 11, 11}, {19, 10, 10, 19, 19}, {20, 10, 10, 20, 20},
            {21, 10, 10, 20, 21}, {0, 10, 0, 0, 0}, {10, 0, 0, 0, 0}, {1, 1, 1, 1, 1}, {999, 99, 99, 198, 297}, {0, 0, 0, 0, 0}};
        for (int[] row : rows) {
            Aquiferward land = withWell(1000, row[0], row[1]);
            for (int month = 1; month <= 3; month++) {
                land.pass(1);
                String of = " of " + row[0] + " by " + row[1] + " in the month " + month;
                due.is("yearly" + of, land.yearly(0), row[1 + month]);
                due.is("pumped" + of, land.pumped(0), row[1 + month]);
                due.is("water" + of, land.water(5), 1000 - row[1 + month]);
            }
            due.is("calls of " + row[0] + " by " + row[1], land.events(), 0);
        }
    }

    /** "And than the cell has. One that gets less than the lesser one of wish and what is left, as the cell has no more, calls". */
    private static void wishAndWater() {
        for (int water = 0; water <= 12; water++) {
            Aquiferward land = withWell(water, 999, 10);
            land.pass(1);
            due.is("pumped from " + water, land.pumped(0), Math.min(water, 10));
            due.is("water left of " + water, land.water(5), Math.max(0, water - 10));
            due.is("calls with " + water, land.events(), water < 10 ? 1 : 0);
            due.is("a caller is not shut, with " + water, land.isShut(0), false);
        }
    }

    private static void amountAndWater() {
        for (int water = 0; water <= 12; water++) {
            Aquiferward land = withWell(water, 5, 10);
            land.pass(1);
            due.is("pumped of 5 from " + water, land.pumped(0), Math.min(water, 5));
            due.is("calls for 5 with " + water, land.events(), water < 5 ? 1 : 0);
        }
    }

    /** The lesser one of wish and what is left is 0, so that none gets less, be the cell as empty as it may. */
    private static void nothingLeftIsNoCall() {
        for (int[] right : new int[][] {{0, 10}, {10, 0}, {0, 0}}) {
            Aquiferward land = withWell(0, right[0], right[1]);
            land.pass(24);
            due.is("calls of " + right[0] + " by " + right[1], land.events(), 0);
        }
        Aquiferward used = withWell(10, 10, 10);
        used.pass(12);
        due.is("calls in the year of an amount that is used", used.events(), 0);
        used.pass(1);
        due.is("a call in the next year", used.events(), 1);
        Aquiferward nearly = withWell(10, 11, 10);
        nearly.pass(1);
        due.is("no call yet", nearly.events(), 0);
        nearly.pass(1);
        due.is("a call for the last unit", nearly.events(), 1);
    }

    /** "An amount for a year": whole again in the month 13, and not ahead of it. */
    private static void amountOfAYear() {
        Aquiferward land = withWell(5000, 999, 99);
        land.pass(10);
        due.is("yearly of 999 behind 10 months", land.yearly(0), 990);
        land.pass(1);
        due.is("yearly of 999 behind 11 months", land.yearly(0), 999);
        land.pass(1);
        due.is("yearly of 999 behind 12 months", land.yearly(0), 0);
        due.is("pumped behind 12 months", land.pumped(0), 999);
        land.pass(1);
        due.is("yearly behind 13 months", land.yearly(0), 99);
        land.pass(11);
        due.is("pumped behind 24 months", land.pumped(0), 1998);
        due.is("water left", land.water(5), 5000 - 1998);
        due.is("account p", land.account('p'), 1998);
        Aquiferward once = withWell(5000, 999, 99);
        once.pass(24);
        due.is("pumped behind 24 months at once", once.pumped(0), 1998);
        due.is("amount of a well that pumped", once.amount(0), 999);
    }

    /** "The older right goes first": the lower year, whatever the number. */
    private static void theOlderRightGoesFirst() {
        for (int[] years : new int[][] {{0, 1}, {1, 0}, {0, 9999}, {9999, 0}, {9998, 9999}, {9999, 9998}}) {
            Aquiferward land = Lands.still();
            land.setCell(5, 0, 10, 10);
            for (int well = 0; well < 2; well++) {
                land.addWell(5, years[well], 99);
                land.setWish(well, 7);
            }
            int older = years[0] < years[1] ? 0 : 1;
            land.pass(1);
            String of = " of " + years[0] + " and " + years[1];
            due.is("the oldest one" + of, land.byAge(0), older);
            due.is("the younger one" + of, land.byAge(1), 1 - older);
            due.is("pumped by the older one" + of, land.pumped(older), 7);
            due.is("pumped by the younger one" + of, land.pumped(1 - older), 3);
            due.is("yearly of the older one" + of, land.yearly(older), 7);
            due.is("yearly of the younger one" + of, land.yearly(1 - older), 3);
            due.is("calls" + of, land.events(), 1);
            due.is("the older one is not shut" + of, land.isShut(older), false);
            due.is("nor is the caller" + of, land.isShut(1 - older), false);
        }
    }

    /** "Of alike years the lower number": among 6 wells of three years, each of them twice. */
    private static void ofAlikeYearsTheLowerNumber() {
        int[] years = {8, 3, 5, 3, 8, 5};
        int[] oldestFirst = {1, 3, 2, 5, 0, 4};
        for (int water = 0; water <= 6; water++) {
            Aquiferward land = Lands.still();
            land.setCell(4, 0, 10, water);
            for (int well = 0; well < 6; well++) {
                land.addWell(4, years[well], 9);
                land.setWish(well, 1);
            }
            land.pass(1);
            for (int place = 0; place < 6; place++) {
                int well = oldestFirst[place];
                due.is("byAge(" + place + ")", land.byAge(place), well);
                due.is("pumped by " + well + " of " + water, land.pumped(well), place < water ? 1 : 0);
                due.is("isShut of " + well + " with " + water, land.isShut(well), place > water);
            }
            due.is("calls with " + water, land.events(), water < 6 ? 1 : 0);
        }
    }

    /** All 6 wells, amounts of 999, wishes of 99: just enough water, one unit less, and none. */
    private static void sixWellsInACell() {
        for (int water : new int[] {595, 594, 593, 495, 494, 0}) {
            Aquiferward land = Lands.still();
            land.setCell(12, 0, 50, water);
            for (int well = 0; well < 6; well++) {
                land.addWell(12, 1900, 999);
                land.setWish(well, 99);
            }
            land.pass(1);
            int rest = water;
            boolean called = false;
            for (int well = 0; well < 6; well++) {
                int got = called ? 0 : Math.min(99, rest);
                due.is("pumped by " + well + " of " + water, land.pumped(well), got);
                due.is("isShut of " + well + " with " + water, land.isShut(well), called);
                called |= got < 99;
                rest -= got;
            }
            due.is("calls with " + water, land.events(), called ? 1 : 0);
            due.is("water left of " + water, land.water(12), rest);
        }
    }

    /** "In the same layer, at most 2 columns away": each cell as seen from each other one. */
    private static void whichCellsAreReached() {
        for (int caller = 0; caller < 16; caller++) {
            for (int cell = 0; cell < 16; cell++) {
                Aquiferward land = Lands.still();
                land.addWell(caller, 1, 9);
                land.addWell(cell, 2, 9);
                land.setWish(0, 1);
                land.pass(1);
                boolean layer = caller < 8 == cell < 8;
                int away = Math.abs(caller % 8 - cell % 8);
                due.is("shut in " + cell + " by " + caller, land.isShut(1), layer && away <= 2);
                due.is("a call in " + caller, land.events(), 1);
            }
        }
    }

    /** "All wells of younger rights, or alike years with a higher number". */
    private static void whichRightsAreReached() {
        Aquiferward land = Lands.still();
        int[] years = {50, 49, 50, 50, 51, 0};
        boolean[] shut = {false, false, false, true, true, false};
        for (int year : years) {
            land.addWell(3, year, 9);
        }
        land.setWish(2, 1);
        land.pass(1);
        for (int well = 0; well < 6; well++) {
            due.is("shut of the year " + years[well] + ", number " + well, land.isShut(well), shut[well]);
        }
        due.is("one call", land.events(), 1);
        Aquiferward oldest = Lands.still();
        oldest.addWell(3, 9999, 9);
        oldest.addWell(3, 0, 9);
        oldest.setWish(1, 1);
        oldest.pass(1);
        due.is("9999 shut by 0", oldest.isShut(0), true);
        due.is("0 not shut", oldest.isShut(1), false);
    }

    /** A younger well goes behind the call, so that it does not pump in this month any more. */
    private static void shutInTheSameMonth() {
        Aquiferward land = Lands.still();
        land.setCell(2, 0, 10, 3);
        land.setCell(4, 0, 10, 90);
        land.addWell(4, 7, 99);
        land.addWell(2, 6, 99);
        land.setWish(0, 5);
        land.setWish(1, 3);
        land.pass(1);
        due.is("with just enough for the older one", land.pumped(0) * 10 + land.pumped(1), 53);
        land.setCell(2, 0, 10, 2);
        land.pass(1);
        due.is("with one unit less for the older one", land.pumped(0) * 10 + land.pumped(1), 55);
        due.is("the younger one is shut", land.isShut(0), true);
        due.is("one call", land.events(), 1);
    }

    /** "Are shut till the year ends": the months 11 and 12, and the one behind. */
    private static void shutTillTheYearEnds() {
        for (int month = 1; month <= 12; month++) {
            Aquiferward land = Lands.still();
            land.setCell(4, 0, 50, 1000);
            land.addWell(3, 0, 99);
            land.addWell(4, 1, 999);
            land.setWish(1, 2);
            for (int passed = 0; passed < month - 1; passed++) {
                land.pass(1);
            }
            land.setWish(0, 1);
            land.pass(1);
            land.setWish(0, 0);
            long before = 2 * (month - 1);
            due.is("pumped ahead of the call in " + month, land.pumped(1), before);
            due.is("shut behind the call in " + month, land.isShut(1), month != 12);
            for (int later = month + 1; later <= 12; later++) {
                land.pass(1);
                due.is("shut behind " + later + ", called in " + month, land.isShut(1), later != 12);
            }
            due.is("pumped in the year of the call in " + month, land.pumped(1), before);
            land.pass(1);
            due.is("pumped in the month 13, called in " + month, land.pumped(1), before + 2);
            due.is("shut in the month 13, called in " + month, land.isShut(1), false);
        }
    }

    /** No call but pass opens a well, or shuts one. */
    private static void shutWhateverIsSet() {
        Aquiferward land = Lands.still();
        land.addWell(3, 0, 99);
        land.addWell(4, 1, 99);
        land.addWell(4, 0, 99);
        land.setWish(0, 1);
        land.setWish(1, 1);
        land.pass(1);
        due.is("shut at first", land.isShut(1), true);
        land.transfer(0, 1, 50);
        due.is("shut behind a transfer to it", land.isShut(1), true);
        land.transfer(1, 0, 149);
        due.is("shut behind a transfer of all that it had", land.isShut(1), true);
        land.transfer(2, 1, 9);
        land.setWish(1, 0);
        due.is("shut behind a wish of 0", land.isShut(1), true);
        land.setWish(1, 5);
        land.setWish(0, 0);
        land.setCell(4, 0, 10, 500);
        land.setCell(3, 0, 10, 500);
        due.is("shut behind water that came", land.isShut(1), true);
        land.addWell(4, 0, 99);
        due.is("shut behind a well that came", land.isShut(1), true);
        due.is("an older one, that a call would shut as one of a higher number", land.isShut(2), true);
        due.is("the one that came, of the same year", land.isShut(3), false);
        land.pass(10);
        due.is("pumped while it was shut", land.pumped(1), 0);
        due.is("shut behind ten months more", land.isShut(1), true);
        due.is("no call by one that is shut", land.events(), 1);
    }

    /** A call in the month 12 shuts for this month alone, as the year ends behind it. */
    private static void callInTheLastMonth() {
        Aquiferward land = Lands.still();
        land.setRain(4, 5);
        land.addWell(3, 0, 99);
        land.addWell(4, 1, 99);
        land.setWish(1, 5);
        land.pass(11);
        due.is("pumped in 11 months", land.pumped(1), 55);
        land.setWish(0, 1);
        land.pass(1);
        due.is("not pumped in the month 12", land.pumped(1), 55);
        due.is("open behind it", land.isShut(1), false);
        due.is("water that stayed", land.water(4), 5);
        land.setWish(0, 0);
        land.pass(1);
        due.is("pumped in the month 13", land.pumped(1), 60);
    }

    /** "One that is shut does not call": so it does not shut those that it alone would reach. */
    private static void shutOnesDoNotCall() {
        Aquiferward land = Lands.still();
        int[] cells = {8, 10, 12};
        for (int well = 0; well < 3; well++) {
            land.addWell(cells[well], well, 9);
            land.setWish(well, 1);
        }
        land.setCell(12, 0, 10, 9);
        land.pass(1);
        due.is("the first one is not shut", land.isShut(0), false);
        due.is("the second one is shut by the first", land.isShut(1), true);
        due.is("the third one is shut by none", land.isShut(2), false);
        due.is("the third one pumps", land.pumped(2), 1);
        due.is("one call", land.events(), 1);
        land.setWish(0, 0);
        land.pass(1);
        due.is("no call by one that is still shut", land.events(), 1);
        land.pass(10);
        land.pass(1);
        due.is("a call by it in the next year", land.events(), 2);
        due.is("now the third one is shut", land.isShut(2), true);
    }

    /** Those that are out of reach of each other all call in one month; the row has an event for each. */
    private static void severalCallInAMonth() {
        Aquiferward land = Lands.still();
        int[] cells = {0, 3, 6, 8, 11, 14};
        for (int well = 0; well < 6; well++) {
            land.addWell(cells[well], 5, 999);
            land.setWish(well, 99);
        }
        land.pass(1);
        due.is("six calls", land.events(), 6);
        for (int at = 0; at < 6; at++) {
            due.is("event " + at, land.eventAt(at), 'c');
            due.is("none of them is shut: " + at, land.isShut(at), false);
        }
    }

    /** One that calls is not shut by that, and calls again as long as it gets less. */
    private static void aCallOfEachMonth() {
        Aquiferward land = withWell(0, 999, 2);
        for (int month = 1; month <= 13; month++) {
            land.pass(1);
            due.is("calls behind " + month, land.events(), month);
        }
        land.setCell(5, 0, 10, 2);
        land.pass(1);
        due.is("no call with just enough", land.events(), 13);
        land.setCell(5, 0, 10, 1);
        land.pass(1);
        due.is("a call with one unit less", land.events(), 14);
        due.is("pumped with what there was", land.pumped(0), 3);
    }

    private static Aquiferward withAmounts(int first, int second) {
        Aquiferward land = Lands.still();
        land.setCell(0, 0, 50, 5000);
        land.addWell(0, 0, first);
        land.addWell(0, 0, second);
        return land;
    }

    private static void amounts(String call, Aquiferward land, int first, int second) {
        due.is("first amount behind " + call, land.amount(0), first);
        due.is("second amount behind " + call, land.amount(1), second);
    }

    /** "If .. the first one has less". */
    private static void transferOfAllAndOfMore() {
        for (int has : new int[] {0, 1, 2, 500, 998, 999}) {
            Aquiferward land = withAmounts(has, 0);
            if (has < 999) {
                due.unsupported("one more than " + has, () -> land.transfer(0, 1, has + 1));
            }
            due.unsupported("from the one that has nothing", () -> land.transfer(1, 0, 1));
            amounts("refused ones", land, has, 0);
            if (has > 0) {
                due.is("all of " + has, land.transfer(0, 1, has), 0);
                amounts("all of " + has, land, 0, has);
                due.unsupported("one behind all of " + has, () -> land.transfer(0, 1, 1));
                due.is("one back", land.transfer(1, 0, 1), has - 1);
                amounts("one back", land, 1, has - 1);
            }
        }
    }

    /** "Or the second one would have more than 999". */
    private static void transferUpTo999() {
        for (int has : new int[] {0, 1, 500, 998}) {
            Aquiferward land = withAmounts(999, has);
            int room = 999 - has;
            if (room < 999) {
                due.unsupported("one more than the room beside " + has, () -> land.transfer(0, 1, room + 1));
            }
            amounts("a refused one", land, 999, has);
            due.is("just the room beside " + has, land.transfer(0, 1, room), has);
            amounts("just the room", land, has, 999);
            due.unsupported("one more beside 999", () -> land.transfer(0, 1, 1));
        }
        Aquiferward full = withAmounts(999, 999);
        due.unsupported("one between full ones", () -> full.transfer(0, 1, 1));
        due.unsupported("all between full ones", () -> full.transfer(0, 1, 999));
        amounts("both", full, 999, 999);
    }

    /** "If both are the same", though there were enough, and room. */
    private static void transferToItself() {
        Aquiferward land = withAmounts(10, 999);
        due.unsupported("to itself", () -> land.transfer(0, 0, 1));
        due.unsupported("all to itself", () -> land.transfer(0, 0, 10));
        due.unsupported("more than all to itself", () -> land.transfer(0, 0, 11));
        due.unsupported("to itself, and it is full", () -> land.transfer(1, 1, 1));
        amounts("to itself", land, 10, 999);
    }

    /** "What was pumped in this year stays": with the one that pumped it. */
    private static void transferKeepsWhatWasPumped() {
        Aquiferward land = withAmounts(100, 100);
        land.setWish(0, 30);
        land.setWish(1, 20);
        land.pass(1);
        land.transfer(0, 1, 100);
        due.is("yearly of the first", land.yearly(0), 30);
        due.is("yearly of the second", land.yearly(1), 20);
        due.is("pumped by the first", land.pumped(0), 30);
        due.is("pumped by the second", land.pumped(1), 20);
        due.is("sound behind that", land.isSound(), true);
        land.pass(10);
        due.is("the second one has 200 now", land.yearly(1), 200);
        due.is("the first one has nothing", land.yearly(0), 30);
    }

    /** What is left behind a transfer: one unit, just nothing, and less than what was pumped. */
    private static void transferLeavesJustNothing() {
        for (int kept = 28; kept <= 32; kept++) {
            Aquiferward land = withAmounts(100, 0);
            land.setWish(0, 30);
            land.pass(1);
            due.is("amount that is kept", land.transfer(0, 1, 100 - kept), kept);
            land.pass(1);
            int more = Math.max(0, kept - 30);
            due.is("yearly with " + kept + " kept", land.yearly(0), 30 + more);
            due.is("no call with " + kept + " kept", land.events(), 0);
            land.setCell(0, 0, 10, 0);
            land.pass(1);
            due.is("no call with " + kept + " kept in an empty cell", land.events(), 0);
            due.is("sound with " + kept + " kept", land.isSound(), true);
            land.setCell(0, 0, 50, 5000);
            land.pass(10);
            due.is("yearly of the next year with " + kept + " kept", land.yearly(0), Math.min(kept, 30));
        }
    }
}
