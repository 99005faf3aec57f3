/** The edges of the river, of springs and of the sea. */
public final class RiverEdgesTest {
    private static final Due due = new Due("RiverEdgesTest");
    /** Difference of levels, strength, and how many units go by these: "divided by 4, cut towards 0". */
    private static final int[][] MOVES = {
        {1, 1, 0}, {1, 3, 0}, {1, 4, 1}, {1, 7, 1}, {1, 8, 2}, {1, 9, 2}, {3, 1, 0}, {4, 1, 1}, {7, 1, 1}, {8, 1, 2}, {2, 9, 4},
        {3, 5, 3}, {21, 9, 47}, {0, 9, 0}};

    public static void main(String[] args) {
        fedCutTowardsNought();
        drunkCutTowardsNought();
        atMostWhatTheRiverHas();
        atMostWhatTheCellHas();
        noRiverAtFirst();
        strengthOfNought();
        byFallingColumns();
        eachFurtherColumn();
        noEventWithoutADemand();
        whatIsDrunkIsThereFurtherDown();
        whatIsLeftGoesIntoTheSea();
        theLowerCellsHaveNoBed();
        eventEachMonth();
        springAboveTheGround();
        springOfAGroundBelowTheBase();
        springsOfTheLowerLayer();
        seaComesInCutTowardsNought();
        seaTakesCutTowardsNought();
        seaTakesAtMostWhatThereIs();
        seaMeetsTheColumnNoughtAlone();
        seaBehindSprings();
        due.end();
    }

    /** "If this is above 0, so much goes from the river into the cell". */
    private static void fedCutTowardsNought() {
        for (int column = 0; column < 8; column++) {
            for (int[] move : MOVES) {
                Aquiferward land = Lands.still();
                land.setRiver(999);
                Lands.setNearlyHigher(land, column, -5);
                land.setBed(column, -5 + move[0], move[1]);
                land.pass(1);
                String of = " by " + move[0] + " times " + move[1] + " in " + column;
                due.is("fed" + of, land.water(column), 49 + move[2]);
                due.is("account i" + of, land.account('i'), move[2]);
                due.is("account o" + of, land.account('o'), 0);
                due.is("account l" + of, land.account('l'), 999 - move[2]);
                due.is("events" + of, land.events(), 0);
            }
        }
    }

    /** "If it is below 0, so much goes from the cell into the river". */
    private static void drunkCutTowardsNought() {
        for (int column = 0; column < 8; column++) {
            for (int[] move : MOVES) {
                Aquiferward land = Lands.still();
                land.setRiver(1);
                Lands.setNearlyHigher(land, column, -5 + move[0]);
                land.setBed(column, -5, move[1]);
                land.pass(1);
                String of = " by " + move[0] + " times " + move[1] + " in " + column;
                due.is("drunk" + of, land.water(column), 49 - move[2]);
                due.is("account o" + of, land.account('o'), move[2]);
                due.is("account i" + of, land.account('i'), 0);
                due.is("account l" + of, land.account('l'), 1 + move[2]);
                due.is("events" + of, land.events(), 0);
            }
        }
    }

    /** "At most what the river has", and 'd' "also if the river had just as much as went into the ground". */
    private static void atMostWhatTheRiverHas() {
        for (int column = 0; column < 8; column++) {
            for (int river = 0; river <= 7; river++) {
                Aquiferward land = Lands.still();
                land.setRiver(river);
                land.setBed(column, 5, 4);
                land.pass(1);
                String of = " of " + river + " in " + column;
                due.is("fed with 5" + of, land.water(column), Math.min(5, river));
                due.is("left" + of, land.account('l'), Math.max(0, river - 5));
                due.is("events" + of, land.events(), river <= 5 ? 1 : 0);
                if (river <= 5) {
                    due.is("the event" + of, land.eventAt(0), 'd');
                }
            }
        }
    }

    /** "At most what the cell has": no event by this, also if the river had nothing ahead of it. */
    private static void atMostWhatTheCellHas() {
        for (int column = 0; column < 8; column++) {
            for (int water = 0; water <= 7; water++) {
                Aquiferward land = Lands.still();
                land.setCell(column, 0, 50, water);
                land.setBed(column, -5, 4);
                land.pass(1);
                String of = " of " + water + " in " + column;
                due.is("what 5 leave" + of, land.water(column), Math.max(0, water - 5));
                due.is("account o" + of, land.account('o'), Math.min(5, water));
                due.is("account l" + of, land.account('l'), Math.min(5, water));
                due.is("events" + of, land.events(), 0);
            }
        }
    }

    /** "As much as told, 0 at first". */
    private static void noRiverAtFirst() {
        Aquiferward land = Lands.still();
        land.pass(1);
        due.is("account l without a river", land.account('l'), 0);
        land.setBed(3, 5, 4);
        land.pass(1);
        due.is("account i without a river", land.account('i'), 0);
        due.is("nothing is left of nothing", land.events(), 1);
        land.setRiver(999);
        land.pass(1);
        due.is("account l with the greatest river", land.account('l'), 994);
        land.setRiver(0);
        land.pass(1);
        due.is("account l without a river again", land.account('l'), 994);
        due.is("nothing is left again", land.events(), 2);
    }

    /** "The strength, 0 to 9; 0 for no bed". */
    private static void strengthOfNought() {
        Aquiferward land = Lands.still();
        for (int column = 0; column < 8; column++) {
            land.setBed(column, column % 2 == 0 ? 100 : -100, 0);
            land.setCell(column, 0, 1, 20);
        }
        land.pass(1);
        due.is("account i without a bed", land.account('i'), 0);
        due.is("account o without a bed", land.account('o'), 0);
        due.is("events without a bed and a river", land.events(), 0);
        land.setRiver(10);
        land.pass(1);
        due.is("all goes by", land.account('l'), 10);
        due.is("events without a bed", land.events(), 0);
        land.setBed(4, 100, 1);
        land.pass(1);
        due.is("a bed of the strength 1", land.water(4), 30);
        due.is("its event", land.events(), 1);
        land.setBed(4, 100, 0);
        land.pass(1);
        due.is("a bed that was taken away", land.water(4), 30);
        due.is("account l behind that", land.account('l'), 20);
    }

    /** "By falling columns": with each amount of water, the column 7 first, the column 0 last. */
    private static void byFallingColumns() {
        for (int river = 0; river <= 17; river++) {
            Aquiferward land = Lands.still();
            land.setRiver(river);
            land.setBed(0, 4, 4);
            land.setBed(3, 5, 4);
            land.setBed(7, 6, 4);
            land.pass(1);
            int first = Math.min(6, river);
            int second = Math.min(5, river - first);
            int third = Math.min(4, river - first - second);
            due.is("the column 7 of " + river, land.water(7), first);
            due.is("the column 3 of " + river, land.water(3), second);
            due.is("the column 0 of " + river, land.water(0), third);
            due.is("account l of " + river, land.account('l'), river - first - second - third);
            due.is("events of " + river, land.events(), river <= 6 ? 3 : river <= 11 ? 2 : river <= 15 ? 1 : 0);
        }
    }

    /** "And at each further column from which some would have gone". */
    private static void eachFurtherColumn() {
        for (int dry = 7; dry >= 0; dry--) {
            Aquiferward land = Lands.still();
            land.setRiver(8 - dry);
            for (int column = 0; column < 8; column++) {
                land.setBed(column, 1, 4);
            }
            land.pass(1);
            due.is("events from the column " + dry, land.events(), dry + 1);
            for (int column = 0; column < 8; column++) {
                due.is("water of " + column + " with the last in " + dry, land.water(column), column >= dry ? 1 : 0);
            }
        }
    }

    /** At the stage, above it, and with less than a whole unit nothing would have gone. */
    private static void noEventWithoutADemand() {
        Aquiferward land = Lands.still();
        land.setRiver(1);
        land.setBed(7, 1, 4);
        land.setBed(6, 0, 9);
        land.setBed(5, 1, 3);
        land.setBed(4, -1, 9);
        land.setBed(3, 3, 1);
        land.setBed(2, 100, 0);
        land.pass(1);
        due.is("the event of the column 7 alone", land.events(), 1);
        land.setRiver(0);
        land.pass(1);
        due.is("the column 7 again", land.events(), 2);
        land.setBed(5, 1, 4);
        land.pass(1);
        due.is("the column 5 too", land.events(), 4);
        land.setBed(3, 4, 1);
        land.pass(1);
        due.is("the column 3 too", land.events(), 7);
    }

    /** What the river drinks at a column it has at each further one, also behind a column at which nothing was left. */
    private static void whatIsDrunkIsThereFurtherDown() {
        for (int water = 0; water <= 8; water++) {
            Aquiferward land = Lands.still();
            land.setBed(6, 5, 4);
            land.setCell(5, 50, 50, water);
            land.setBed(5, 0, 4);
            land.setBed(4, 7, 4);
            land.pass(1);
            due.is("nothing goes up", land.water(6), 0);
            due.is("drunk of " + water, land.water(5), 0);
            due.is("fed with " + water, land.water(4), Math.min(7, water));
            due.is("left of " + water, land.account('l'), Math.max(0, water - 7));
            due.is("events with " + water, land.events(), water <= 7 ? 2 : 1);
        }
    }

    /** "What is left behind the column 0 goes into the sea": it is not kept for the next month. */
    private static void whatIsLeftGoesIntoTheSea() {
        Aquiferward land = Lands.still();
        land.setRiver(7);
        land.setCell(0, 3, 50, 9);
        land.setBed(0, 0, 4);
        land.pass(1);
        due.is("account l with what the column 0 gave", land.account('l'), 10);
        due.is("account o", land.account('o'), 3);
        land.setRiver(0);
        land.setBed(0, 50, 4);
        land.pass(1);
        due.is("nothing is left of the month before", land.water(0), 6);
        due.is("account l behind that", land.account('l'), 10);
        due.is("account m is for the ground alone", land.account('m'), 0);
        due.is("its event", land.events(), 1);
    }

    private static void theLowerCellsHaveNoBed() {
        Aquiferward land = Lands.still();
        land.setRiver(999);
        for (int column = 0; column < 8; column++) {
            land.setCell(column, 0, 50, 0);
            land.setCell(8 + column, column % 2 == 0 ? 50 : -50, 50, 20);
            land.setBed(column, 0, 9);
        }
        land.pass(1);
        due.is("all goes by", land.account('l'), 999);
        for (int cell = 8; cell < 16; cell++) {
            due.is("water of " + cell, land.water(cell), 20);
        }
    }

    private static void eventEachMonth() {
        Aquiferward land = Lands.still();
        land.setRiver(3);
        land.setBed(2, 100, 4);
        land.pass(24);
        due.is("an event of each month", land.events(), 24);
        due.is("water of each month", land.water(2), 72);
    }

    /** "In an upper cell with a level above the ground .. no more than the ground less the base, times the storage". */
    private static void springAboveTheGround() {
        int[][] rows = {{0, 5, 10}, {0, 0, 10}, {-100, -100, 50}, {-100, -99, 50}, {100, 200, 1}, {100, 200, 49}, {7, 9, 3}, {-4, 2, 1}};
        for (int column = 0; column < 8; column++) {
            for (int[] row : rows) {
                int ground = row[1];
                int storage = row[2];
                int kept = (ground - row[0]) * storage;
                for (int above = -1; above <= 2; above++) {
                    for (int water = kept + above * storage - 1; water <= kept + above * storage + 1; water++) {
                        if (water >= 0 && water <= 5000) {
                            springs(column, row, water, water >= kept + storage ? kept : water);
                        }
                    }
                }
            }
        }
    }

    private static void springs(int column, int[] row, int water, int want) {
        Aquiferward land = Lands.still();
        land.setCell(column, row[0], row[2], water);
        land.setGround(column, row[1]);
        land.pass(1);
        String of = " of " + water + " by " + row[2] + " above " + row[0] + " at " + row[1] + " in " + column;
        due.is("what a spring leaves" + of, land.water(column), want);
        due.is("account s" + of, land.account('s'), water - want);
    }

    /** "0 if that is less": the level is above the ground with any water, and without. */
    private static void springOfAGroundBelowTheBase() {
        for (int column = 0; column < 8; column++) {
            for (int water : new int[] {0, 1, 9, 10, 11, 5000}) {
                springs(column, new int[] {0, -1, 10}, water, 0);
                springs(column, new int[] {100, -100, 50}, water, 0);
                springs(column, new int[] {-99, -100, 1}, water, 0);
            }
        }
    }

    private static void springsOfTheLowerLayer() {
        Aquiferward land = Lands.still();
        for (int column = 0; column < 8; column++) {
            land.setGround(column, -100);
            land.setCell(column, -100, 50, 49);
            land.setCell(8 + column, 100, 1, 5000);
        }
        land.pass(1);
        due.is("account s", land.account('s'), 0);
        due.is("the lower cells keep all", Lands.waterInAll(land), 8 * 5049);
    }

    /** "So much comes in if it is above 0": for the upper cell and for the lower one of the column 0. */
    private static void seaComesInCutTowardsNought() {
        for (int cell = 0; cell < 16; cell += 8) {
            for (int[] move : MOVES) {
                Aquiferward land = Lands.still();
                Lands.setNearlyHigher(land, cell, -move[0]);
                land.setCell(8 - cell, 0, 50, 49);
                land.setSea(move[1]);
                land.pass(1);
                String of = " by " + move[0] + " times " + move[1] + " in " + cell;
                due.is("in from the sea" + of, land.water(cell), 49 + move[2]);
                due.is("salt from the sea" + of, land.salt(cell), 35 * move[2]);
                due.is("account n" + of, land.account('n'), move[2]);
                due.is("account m" + of, land.account('m'), 0);
                due.is("at the sea's level" + of, land.water(8 - cell), 49);
            }
        }
    }

    /** "So much goes out if it is below 0". */
    private static void seaTakesCutTowardsNought() {
        for (int cell = 0; cell < 16; cell += 8) {
            for (int[] move : MOVES) {
                Aquiferward land = Lands.still();
                Lands.setNearlyHigher(land, cell, move[0]);
                land.setSea(move[1]);
                land.pass(1);
                String of = " by " + move[0] + " times " + move[1] + " in " + cell;
                due.is("out to the sea" + of, land.water(cell), 49 - move[2]);
                due.is("account m" + of, land.account('m'), move[2]);
                due.is("account n" + of, land.account('n'), 0);
                due.is("account l" + of, land.account('l'), 0);
            }
        }
    }

    private static void seaTakesAtMostWhatThereIs() {
        for (int cell = 0; cell < 16; cell += 8) {
            for (int water = 0; water <= 7; water++) {
                Aquiferward land = Lands.still();
                land.setCell(cell, 5, 50, water);
                land.setSea(4);
                land.pass(1);
                due.is("what 5 leave of " + water + " in " + cell, land.water(cell), Math.max(0, water - 5));
                due.is("account m of " + water + " in " + cell, land.account('m'), Math.min(5, water));
            }
        }
    }

    private static void seaMeetsTheColumnNoughtAlone() {
        Aquiferward low = Lands.still();
        Aquiferward high = Lands.still();
        for (int cell = 0; cell < 16; cell++) {
            low.setCell(cell, -100, 50, 0);
            high.setCell(cell, 100, 50, 49);
        }
        low.pass(1);
        due.is("a sea of the strength 0 at first", low.account('n'), 0);
        low.setSea(9);
        high.setSea(9);
        low.pass(1);
        high.pass(1);
        for (int cell = 0; cell < 16; cell++) {
            boolean meets = cell == 0 || cell == 8;
            due.is("in from the sea to " + cell, low.water(cell), meets ? 225 : 0);
            due.is("salt from the sea in " + cell, low.salt(cell), meets ? 7875 : 0);
            due.is("out to the sea from " + cell, high.water(cell), meets ? 0 : 49);
        }
        due.is("account n", low.account('n'), 450);
        due.is("account m", high.account('m'), 98);
        low.setSea(0);
        low.pass(1);
        due.is("a sea of the strength 0 again", low.account('n'), 450);
    }

    /** "Behind that": the sea takes by the level that springs leave, and comes in above the ground. */
    private static void seaBehindSprings() {
        Aquiferward land = Lands.still();
        land.setGround(0, -5);
        land.setCell(0, -10, 10, 99);
        land.setSea(4);
        land.pass(1);
        due.is("a spring leaves 50, and 5 come in", land.water(0), 55);
        due.is("account s", land.account('s'), 49);
        due.is("account n", land.account('n'), 5);
        due.is("salt behind the spring", land.salt(0), 175);
        Aquiferward above = Lands.still();
        above.setGround(0, -100);
        above.setCell(0, -100, 1, 0);
        above.setSea(9);
        above.pass(1);
        due.is("what comes in stays above the ground till the next month", above.water(0), 225);
        above.setSea(0);
        above.pass(1);
        due.is("then it goes by a spring", above.water(0), 0);
        due.is("with its salt", above.salt(0), 0);
    }
}
