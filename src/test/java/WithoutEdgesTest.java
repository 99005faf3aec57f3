/** The edges of what a well would have pumped without another one. */
public final class WithoutEdgesTest {
    private static final Due due = new Due("WithoutEdgesTest");

    public static void main(String[] args) {
        asALandWithoutIt();
        atFirstAndWithoutWishes();
        theOtherOneIsOlderOrYounger();
        waterThatTheOtherOneLeft();
        shutByTheOtherOne();
        transferThatIsJustPossible();
        transferThatHasJustRoom();
        transfersOfTheOtherOne();
        transfersGoOnFromThere();
        forfeitsDiffer();
        laterWellsKeepTheirNumbers();
        nothingChangesByThis();
        refusedCallsAreNotMade();
        atTheMonth600();
        due.end();
    }

    /** A land in which all goes on, with the wishes of one well left out; without is -1 for none. */
    private static Aquiferward land(int without) {
        Aquiferward land = new Aquiferward();
        int[] cells = {3, 2, 3, 4, 11, 12};
        int[] years = {4, 4, 2, 9, 1, 4};
        for (int column = 0; column < 8; column++) {
            land.setCell(column, 3 * column, 5, 70);
            land.setCell(8 + column, 2 * column, 9, 90);
            land.setRain(column, 3);
            land.setLeakage(column, 2);
        }
        land.setBed(3, 5, 3);
        land.setRiver(9);
        land.setSea(5);
        for (int well = 0; well < 6; well++) {
            land.addWell(cells[well], years[well], 60 + 10 * well);
            if (well != without) {
                land.setWish(well, 9 + 3 * well);
            }
        }
        land.pass(24);
        land.setCell(3, 4, 7, 500);
        land.setCell(12, 4, 7, 300);
        land.pass(23);
        return land;
    }

    /** Each pair of the 6: the land was made again without the wishes of the other one, and pumps as much. */
    private static void asALandWithoutIt() {
        Aquiferward asked = land(-1);
        int different = 0;
        for (int other = 0; other < 6; other++) {
            Aquiferward made = land(other);
            for (int well = 0; well < 6; well++) {
                if (well != other) {
                    due.is("pumpedWithout(" + well + ", " + other + ")", asked.pumpedWithout(well, other), made.pumped(well));
                    different += made.pumped(well) == asked.pumped(well) ? 0 : 1;
                }
            }
        }
        due.is("there are differences", different > 5, true);
    }

    private static void atFirstAndWithoutWishes() {
        Aquiferward land = Lands.still();
        land.setCell(0, 0, 50, 5000);
        land.addWell(0, 0, 999);
        land.addWell(0, 0, 999);
        due.is("at the month 0", land.pumpedWithout(0, 1), 0);
        land.setWish(0, 10);
        due.is("a wish alone", land.pumpedWithout(0, 1), 0);
        land.pass(1);
        due.is("without one that has no wish", land.pumpedWithout(0, 1), 10);
        due.is("of one that has no wish", land.pumpedWithout(1, 0), 0);
        land.setWish(1, 20);
        due.is("a wish that no month saw", land.pumpedWithout(1, 0), 0);
        land.pass(1);
        due.is("of enough water, first", land.pumpedWithout(0, 1), land.pumped(0));
        due.is("of enough water, second", land.pumpedWithout(1, 0), land.pumped(1));
    }

    private static void theOtherOneIsOlderOrYounger() {
        for (int year : new int[] {4, 5, 6}) {
            for (int cell : new int[] {1, 9}) {
                Aquiferward land = Lands.still();
                land.setCell(1, 0, 10, 15);
                land.setCell(9, 0, 10, 15);
                land.addWell(1, 5, 999);
                land.addWell(cell, year, 999);
                land.setWish(0, 10);
                land.setWish(1, 10);
                land.pass(1);
                boolean second = year < 5;
                boolean same = cell == 1;
                String of = " beside the year " + year + " in " + cell;
                due.is("pumped(0)" + of, land.pumped(0), same && second ? 5 : 10);
                due.is("pumped(1)" + of, land.pumped(1), same && !second ? 5 : 10);
                due.is("pumpedWithout(0, 1)" + of, land.pumpedWithout(0, 1), 10);
                due.is("pumpedWithout(1, 0)" + of, land.pumpedWithout(1, 0), 10);
            }
        }
    }

    /** With each amount of water around what both of them wish. */
    private static void waterThatTheOtherOneLeft() {
        for (int water = 0; water <= 21; water++) {
            Aquiferward land = Lands.still();
            land.setCell(6, 0, 50, water);
            land.addWell(6, 1, 999);
            land.addWell(6, 2, 999);
            land.setWish(0, 8);
            land.setWish(1, 12);
            land.pass(1);
            due.is("pumped(1) of " + water, land.pumped(1), Math.min(12, Math.max(0, water - 8)));
            due.is("pumpedWithout(1, 0) of " + water, land.pumpedWithout(1, 0), Math.min(12, water));
            due.is("pumpedWithout(0, 1) of " + water, land.pumpedWithout(0, 1), Math.min(8, water));
        }
    }

    /** What is shut for a year by a call is not shut without the one that calls. */
    private static void shutByTheOtherOne() {
        Aquiferward land = Lands.still();
        land.setCell(5, 0, 50, 1000);
        land.addWell(4, 1, 99);
        land.addWell(5, 2, 999);
        land.addWell(5, 3, 999);
        land.setWish(0, 1);
        land.setWish(1, 10);
        land.setWish(2, 20);
        land.pass(12);
        due.is("pumped(1)", land.pumped(1), 0);
        due.is("pumped(2)", land.pumped(2), 0);
        due.is("without the caller, 1", land.pumpedWithout(1, 0), 120);
        due.is("without the caller, 2", land.pumpedWithout(2, 0), 240);
        due.is("without another one that is shut", land.pumpedWithout(1, 2), 0);
        due.is("the caller without one that it shuts", land.pumpedWithout(0, 1), 0);
        due.is("the row has the calls of one land alone", land.events(), 12);
        due.is("still", land.isShut(1), false);
    }

    /** "Transfers that would not have been possible": the well 1 has 10 without what the well 0 gave it. */
    private static void transferThatIsJustPossible() {
        for (int amount = 9; amount <= 12; amount++) {
            Aquiferward land = Lands.still();
            land.setCell(0, 0, 50, 5000);
            land.addWell(0, 0, 5);
            land.addWell(0, 0, 10);
            land.addWell(0, 0, 0);
            land.setWish(1, 99);
            land.setWish(2, 99);
            land.transfer(0, 1, 5);
            land.transfer(1, 2, amount);
            land.pass(1);
            boolean possible = amount <= 10;
            due.is("pumped(2) of " + amount, land.pumped(2), amount);
            due.is("pumpedWithout(2, 0) of " + amount, land.pumpedWithout(2, 0), possible ? amount : 0);
            due.is("pumpedWithout(1, 0) of " + amount, land.pumpedWithout(1, 0), possible ? 10 - amount : 10);
            due.is("pumpedWithout(1, 2) of " + amount, land.pumpedWithout(1, 2), 15);
        }
    }

    /** The well 1 has 990 without what it gave to the well 0. */
    private static void transferThatHasJustRoom() {
        for (int amount = 8; amount <= 11; amount++) {
            Aquiferward land = Lands.still();
            land.setCell(0, 0, 50, 5000);
            land.addWell(0, 0, 5);
            land.addWell(0, 0, 990);
            land.addWell(0, 0, 20);
            land.setWish(2, 99);
            land.transfer(1, 0, 5);
            land.transfer(2, 1, amount);
            land.pass(1);
            boolean possible = amount <= 9;
            due.is("pumped(2) with " + amount + " given", land.pumped(2), 20 - amount);
            due.is("pumpedWithout(2, 0) with " + amount + " given", land.pumpedWithout(2, 0), possible ? 20 - amount : 20);
        }
    }

    /** "But for those about this one": neither what it gave nor what it got. */
    private static void transfersOfTheOtherOne() {
        Aquiferward land = Lands.still();
        land.setCell(0, 0, 50, 5000);
        land.addWell(0, 0, 30);
        land.addWell(0, 0, 30);
        land.setWish(0, 99);
        land.setWish(1, 99);
        land.transfer(0, 1, 30);
        land.pass(1);
        due.is("pumped(1) with 30 more", land.pumped(1), 60);
        due.is("pumped(0) with 30 less", land.pumped(0), 0);
        due.is("without what was got", land.pumpedWithout(1, 0), 30);
        due.is("without what was given", land.pumpedWithout(0, 1), 30);
        land.transfer(1, 0, 10);
        land.pass(12);
        due.is("pumped(1) with 20 more", land.pumped(1), 110);
        due.is("two years without what was got", land.pumpedWithout(1, 0), 60);
        due.is("two years without what was given", land.pumpedWithout(0, 1), 60);
    }

    /** One that was left out leaves others out in turn, and one that was not possible does not go by a part. */
    private static void transfersGoOnFromThere() {
        Aquiferward land = Lands.still();
        land.setCell(0, 0, 50, 5000);
        int[] amounts = {8, 0, 1, 0, 2};
        for (int well = 0; well < amounts.length; well++) {
            land.addWell(0, 0, amounts[well]);
            land.setWish(well, 99);
        }
        land.transfer(0, 1, 8);
        land.transfer(1, 2, 8);
        land.transfer(2, 3, 9);
        land.transfer(3, 4, 9);
        land.transfer(4, 2, 2);
        land.pass(1);
        int[] pumped = {0, 0, 2, 0, 9};
        int[] without = {0, 0, 3, 0, 0};
        for (int well = 1; well < amounts.length; well++) {
            due.is("pumped(" + well + ")", land.pumped(well), pumped[well]);
            due.is("pumpedWithout(" + well + ", 0)", land.pumpedWithout(well, 0), without[well]);
        }
    }

    /** A right that was forfeited by the calls of another one has its amount without it, and may give of it. */
    private static void forfeitsDiffer() {
        Aquiferward land = Lands.still();
        land.setCell(3, 0, 50, 200);
        land.addWell(2, 1, 9);
        land.addWell(3, 2, 9);
        land.setWish(0, 1);
        land.setWish(1, 1);
        land.pass(24);
        land.setWish(0, 0);
        land.pass(1);
        due.is("one unit in the third year", land.pumped(1), 1);
        due.is("9 in each of two years, and 1", land.pumpedWithout(1, 0), 19);
        land.pass(11);
        due.is("not forfeited in time", land.amount(1), 9);
        Aquiferward late = Lands.still();
        late.setCell(3, 0, 50, 200);
        late.addWell(2, 1, 9);
        late.addWell(3, 2, 9);
        late.setWish(0, 1);
        late.setWish(1, 1);
        late.pass(24);
        late.pass(12);
        due.is("forfeited", late.amount(1), 0);
        due.is("three years of it", late.pumpedWithout(1, 0), 27);
        late.setWish(0, 0);
        late.pass(12);
        due.is("nothing in the fourth year", late.pumped(1), 0);
        due.is("four years of it", late.pumpedWithout(1, 0), 36);
        due.is("the other one has no more by that", late.pumpedWithout(0, 1), 0);
    }

    /** "Wells keep their numbers when it is asked what would have been without one", and so their order in alike years. */
    private static void laterWellsKeepTheirNumbers() {
        Aquiferward land = Lands.still();
        land.setCell(4, 0, 50, 60);
        for (int well = 0; well < 6; well++) {
            land.addWell(4, 7, 999);
            land.setWish(well, 10 + well);
        }
        land.pass(1);
        int[] pumped = {10, 11, 12, 13, 14, 0};
        for (int well = 0; well < 6; well++) {
            due.is("pumped(" + well + ")", land.pumped(well), pumped[well]);
        }
        for (int other = 0; other < 6; other++) {
            int rest = 60;
            for (int well = 0; well < 6; well++) {
                if (well != other) {
                    int got = Math.min(rest, 10 + well);
                    due.is("pumpedWithout(" + well + ", " + other + ")", land.pumpedWithout(well, other), got);
                    rest -= got;
                }
            }
        }
        Aquiferward late = Lands.still();
        late.setCell(4, 0, 50, 50);
        late.addWell(4, 7, 999);
        late.setWish(0, 10);
        late.pass(1);
        due.outOfBounds("without a well that is not there yet", () -> late.pumpedWithout(0, 1));
        late.addWell(4, 6, 999);
        late.setWish(1, 35);
        due.is("without one that has just come", late.pumpedWithout(0, 1), 10);
        late.pass(1);
        due.is("beside one that came late", late.pumped(0), 15);
        due.is("without one that came late", late.pumpedWithout(0, 1), 20);
        due.is("of one that came late", late.pumpedWithout(1, 0), 35);
    }

    /** Asked in each month, or once in the end: the answers and the land are the same. */
    private static void nothingChangesByThis() {
        Aquiferward asked = land(-1);
        Aquiferward twin = land(-1);
        for (int month = 0; month < 20; month++) {
            due.is("pumpedWithout twice", asked.pumpedWithout(month % 6, (month + 1) % 6),
                    asked.pumpedWithout(month % 6, (month + 1) % 6));
            asked.setCell(4, 0, 10, 20);
            twin.setCell(4, 0, 10, 20);
            asked.pass(1);
            twin.pass(1);
        }
        due.is("all behind that", Look.at(asked, 6), Look.at(twin, 6));
        due.is("settings behind that", Look.atSettings(asked, 6), Look.atSettings(twin, 6));
    }

    /** A refused call is none of the calls that are the same. */
    private static void refusedCallsAreNotMade() {
        Aquiferward land = Lands.still();
        land.setCell(4, 0, 50, 100);
        land.addWell(4, 1, 999);
        land.addWell(4, 2, 30);
        land.addWell(4, 3, 0);
        land.setWish(1, 10);
        land.setWish(2, 10);
        due.illegal("setWish of 100", () -> land.setWish(1, 100));
        due.illegal("setCell with 5001", () -> land.setCell(4, 0, 50, 5001));
        due.illegal("setRain of 100", () -> land.setRain(4, 100));
        due.illegal("pass of 25", () -> land.pass(25));
        due.illegal("addWell of 1000", () -> land.addWell(4, 0, 1000));
        due.unsupported("transfer of 31", () -> land.transfer(1, 2, 31));
        land.pass(1);
        due.is("pumpedWithout(1, 0)", land.pumpedWithout(1, 0), 10);
        due.is("pumpedWithout(2, 0)", land.pumpedWithout(2, 0), 0);
        due.is("sound", land.isSound(), true);
    }

    /** The longest time that there is, and behind it the refused month. */
    private static void atTheMonth600() {
        Aquiferward land = Lands.still();
        land.setRain(1, 20);
        land.addWell(1, 1, 999);
        land.addWell(1, 2, 999);
        land.setWish(0, 15);
        land.setWish(1, 15);
        Lands.pass(land, 600);
        due.refused("pass(1)", ArithmeticException.class, () -> land.pass(1));
        due.is("pumped(0)", land.pumped(0), 15 * 600);
        due.is("pumpedWithout(0, 1)", land.pumpedWithout(0, 1), 15 * 600);
        due.is("pumpedWithout(1, 0)", land.pumpedWithout(1, 0), 15 * 600);
        due.is("pumped(1)", land.pumped(1), 5 * 600);
        due.is("sound", land.isSound(), true);
    }
}
