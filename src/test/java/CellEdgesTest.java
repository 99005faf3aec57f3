/** The edges of the land at first, of levels, and of salt that goes with water. */
public final class CellEdgesTest {
    private static final Due due = new Due("CellEdgesTest");

    public static void main(String[] args) {
        basesAndStoragesAtFirst();
        groundsAtFirst();
        conductancesAtFirst();
        nothingElseAtFirst();
        levelsAreRoundedDown();
        saltAtFirst();
        saltLeftByAWell();
        saltLeftByFlows();
        saltLeftByALowerCell();
        saltLeftByARiver();
        saltLeftByASpring();
        saltLeftByTheSea();
        saltOfACellThatIsEmptied();
        saltGoesOneFlowBehindTheOther();
        saltThatComesInStaysTillTheFlowsAreOver();
        rainAndRiversBringNone();
        seaWaterBrings35();
        muchSalt();
        setWaterHasNoSalt();
        due.end();
    }

    /** "At first, bases are 0, storages 10, and cells are empty." */
    private static void basesAndStoragesAtFirst() {
        for (int column = 0; column < 8; column++) {
            Aquiferward upper = Lands.still();
            due.is("water at first in " + column, upper.water(column), 0);
            due.is("level at first of " + column, upper.level(column), 0);
            upper.setRain(column, 9);
            upper.pass(1);
            due.is("level of " + column + " with 9 units", upper.level(column), 0);
            upper.setRain(column, 1);
            upper.pass(1);
            due.is("level of " + column + " with 10 units", upper.level(column), 1);

            Aquiferward lower = Lands.still();
            int cell = 8 + column;
            due.is("water at first in " + cell, lower.water(cell), 0);
            due.is("level at first of " + cell, lower.level(cell), 0);
            lower.setLeakage(column, 9);
            lower.setCell(column, 50, 50, 9);
            lower.pass(1);
            due.is("level of " + cell + " with 9 units", lower.level(cell), 0);
            lower.setCell(column, 50, 50, 1);
            lower.pass(1);
            due.is("level of " + cell + " with 10 units", lower.level(cell), 1);
        }
    }

    /** "An upper cell has a ground, 100 at first." */
    private static void groundsAtFirst() {
        for (int column = 0; column < 8; column++) {
            Aquiferward land = Lands.still();
            land.setCell(column, 100, 10, 9);
            land.pass(1);
            due.is("water at the level 100 of " + column, land.water(column), 9);
            land.setCell(column, 100, 10, 10);
            land.pass(1);
            due.is("water that was at the level 101 of " + column, land.water(column), 0);
            due.is("ground of " + column + " at first", land.setGround(column, 0), 100);
        }
    }

    /** "The conductance of the layer, 4 at first." */
    private static void conductancesAtFirst() {
        for (int layer = 0; layer < 2; layer++) {
            Aquiferward land = new Aquiferward();
            land.setCell(8 * layer, 7, 50, 49);
            land.pass(1);
            due.is("what a difference of 7 moves in the layer " + layer, land.water(8 * layer + 1), 7);
            due.is("conductance of the layer " + layer, land.setConductance(layer, 0), 4);
        }
    }

    /** "The leakage of the column, 0 at first", the river "0 at first", "the strength of the sea, 0 at first", no rain, no bed. */
    private static void nothingElseAtFirst() {
        Aquiferward land = Lands.still();
        for (int cell = 0; cell < 16; cell++) {
            land.setCell(cell, cell % 3 * 50 - 50, 1, cell % 2);
        }
        long sum = land.checksum();
        land.pass(24);
        due.is("all stays where it is", land.checksum(), sum);
        due.is("no event", land.events(), 0);
        for (char what : "rpiosnml".toCharArray()) {
            due.is("account " + what, land.account(what), 0);
        }
        due.is("the month", land.pass(1), 25);
    }

    /** "Its level is the base plus the water divided by the storage, rounded down." */
    private static void levelsAreRoundedDown() {
        for (int base : new int[] {-100, -3, -1, 0, 1, 100}) {
            Aquiferward land = new Aquiferward();
            for (int storage : new int[] {1, 2, 3, 49, 50}) {
                for (int water : new int[] {0, storage - 1, storage, storage + 1, 2 * storage - 1, 2 * storage}) {
                    land.setCell(0, base, storage, water);
                    int higher = water < storage ? 0 : water < 2 * storage ? 1 : 2;
                    due.is("level of " + water + " by " + storage + " above " + base, land.level(0), base + higher);
                }
            }
        }
        Aquiferward full = new Aquiferward();
        full.setCell(5, 100, 1, 5000);
        due.is("level of a full cell with the least storage", full.level(5), 5100);
        full.setCell(5, -100, 50, 4999);
        due.is("level of a nearly full cell with the greatest storage", full.level(5), -1);
        full.setCell(5, -100, 50, 5000);
        due.is("level of a full cell with the greatest storage", full.level(5), 0);
    }

    /** "A cell has salt in whole units, none at first." */
    private static void saltAtFirst() {
        Aquiferward land = new Aquiferward();
        for (int cell = 0; cell < 16; cell++) {
            due.is("salt at first of " + cell, land.salt(cell), 0);
            land.setCell(cell, 0, 10, 99);
            due.is("salt of set water in " + cell, land.salt(cell), 0);
        }
        land.pass(1);
        due.is("salt of fresh water that flowed", Lands.saltInAll(land), 0);
    }

    /** A cell 0 with 3 units of water and 35 of salt, at the level 2 above its base of -1; its rain has just begun. */
    private static Aquiferward brackish(String of) {
        Aquiferward land = Lands.salty(0, 1, 1);
        due.is("salt ahead of " + of, land.salt(0), 35);
        land.setRain(0, 2);
        return land;
    }

    private static void left(String by, Aquiferward land, int cell, int water, int salt) {
        due.is("water left by " + by, land.water(cell), water);
        due.is("salt left by " + by, land.salt(cell), salt);
    }

    /** "Takes the salt of this cell with it, times this water, divided by the water that the cell has then, .. rounded down". */
    private static void saltLeftByAWell() {
        Aquiferward land = brackish("a well");
        land.addWell(0, 0, 999);
        land.setWish(0, 1);
        land.pass(1);
        left("a well", land, 0, 2, 24);
        due.is("it is gone in a well", Lands.saltInAll(land), 24);
        land.setRain(0, 0);
        land.pass(1);
        left("a well, divided without a rest", land, 0, 1, 12);
        land.pass(1);
        left("a well that takes the last", land, 0, 0, 0);

        Aquiferward two = brackish("two wells");
        two.addWell(0, 0, 999);
        two.addWell(0, 0, 999);
        two.setWish(0, 1);
        two.setWish(1, 1);
        two.pass(1);
        left("two wells, one behind the other", two, 0, 1, 12);
    }

    private static void saltLeftByFlows() {
        Aquiferward right = brackish("a flow to the right");
        right.setConductance(0, 2);
        right.pass(1);
        left("a flow to the right", right, 0, 2, 24);
        left("a flow from the left", right, 1, 1, 11);

        Aquiferward down = brackish("a flow down");
        down.setLeakage(0, 2);
        down.pass(1);
        left("a flow down", down, 0, 2, 24);
        left("a flow from above", down, 8, 1, 11);

        Aquiferward left = brackish("a flow to the left");
        left.setRain(0, 0);
        left.setCell(1, -50, 50, 0);
        left.setConductance(0, 4);
        left.pass(1);
        left("a flow of all to the right", left, 0, 0, 0);
        left("a flow of all from the left", left, 1, 1, 35);
        left.setRain(1, 2);
        left.setCell(0, -52, 50, 0);
        left.setConductance(0, 2);
        left.pass(1);
        left("a flow to the left", left, 1, 2, 24);
        left("a flow from the right", left, 0, 1, 11);
        due.is("none is gone by flows", Lands.saltInAll(left), 35);
    }

    /** In the lower layer, and from there to the upper one. */
    private static void saltLeftByALowerCell() {
        Aquiferward land = Lands.salty(8, 1, 50);
        land.setCell(9, 100, 50, 2);
        land.setConductance(1, 4);
        land.pass(1);
        left("a lower cell with what comes in", land, 8, 3, 35);
        land.setConductance(1, 0);
        land.setCell(0, -3, 50, 0);
        land.setLeakage(0, 2);
        land.pass(1);
        left("a flow up", land, 8, 2, 24);
        left("a flow from below", land, 0, 1, 11);
        land.setLeakage(0, 0);
        land.setCell(9, -3, 50, 0);
        land.setConductance(1, 2);
        land.pass(1);
        left("a lower flow to the right", land, 8, 1, 12);
        left("a lower flow from the left", land, 9, 1, 12);
    }

    private static void saltLeftByARiver() {
        Aquiferward land = brackish("a river");
        land.setBed(0, 1, 4);
        land.pass(1);
        left("a river", land, 0, 2, 24);
        due.is("it is gone in a river", Lands.saltInAll(land), 24);
    }

    private static void saltLeftByASpring() {
        Aquiferward land = brackish("a spring");
        land.setGround(0, 0);
        land.pass(1);
        left("a spring", land, 0, 1, 12);
        due.is("it is gone in a spring", Lands.saltInAll(land), 12);
    }

    private static void saltLeftByTheSea() {
        Aquiferward land = brackish("the sea");
        land.setSea(4);
        land.pass(1);
        left("the sea", land, 0, 1, 12);
        due.is("it is gone in the sea", Lands.saltInAll(land), 12);
        due.is("account m", land.account('m'), 2);
    }

    /** With the last water of a cell all its salt goes, by whatever. */
    private static void saltOfACellThatIsEmptied() {
        Aquiferward well = brackish("a well for all");
        well.addWell(0, 0, 999);
        well.setWish(0, 3);
        well.pass(1);
        left("a well for all", well, 0, 0, 0);
        due.is("no call by just all", well.events(), 0);
        Aquiferward flow = brackish("a flow of all");
        flow.setConductance(0, 6);
        flow.pass(1);
        left("a flow of all", flow, 0, 0, 0);
        left("a flow of all from the left", flow, 1, 3, 35);
        Aquiferward river = brackish("a river for all");
        river.setBed(0, -1, 4);
        river.pass(1);
        left("a river for all", river, 0, 0, 0);
        Aquiferward spring = brackish("a spring for all");
        spring.setGround(0, -1);
        spring.pass(1);
        left("a spring for all", spring, 0, 0, 0);
        Aquiferward sea = brackish("a sea for all");
        sea.setSea(6);
        sea.pass(1);
        left("a sea for all", sea, 0, 0, 0);
    }

    /** The cell 1 with 11 units of water and 350 of salt at the level -90, and nothing below it or at its sides. */
    private static Aquiferward brackishInside() {
        Aquiferward land = Lands.salty(0, 10, 50);
        land.setCell(1, -90, 50, 0);
        land.setConductance(0, 4);
        land.pass(1);
        left("a flow of all to the cell 1", land, 0, 0, 0);
        left("a flow of all in the cell 1", land, 1, 10, 350);
        land.setRain(1, 1);
        return land;
    }

    /** "Flows out of a cell take salt one after the other, in the order told." */
    private static void saltGoesOneFlowBehindTheOther() {
        Aquiferward land = brackishInside();
        land.setCell(0, -92, 50, 0);
        land.setCell(2, -93, 50, 0);
        land.setCell(9, -94, 50, 0);
        land.setLeakage(1, 4);
        land.pass(1);
        left("the flow to the lower number", land, 0, 2, 63);
        left("the flow to the higher number", land, 2, 3, 95);
        left("the flow to the other layer", land, 9, 4, 128);
        left("all three flows", land, 1, 2, 64);
    }

    /** "What comes in stays till the flows are over, and so does its salt." */
    private static void saltThatComesInStaysTillTheFlowsAreOver() {
        Aquiferward right = brackishInside();
        right.setRain(1, 0);
        right.setCell(0, -80, 50, 0);
        right.setCell(2, -95, 50, 4);
        right.setCell(3, -97, 50, 0);
        right.pass(1);
        left("a flow to a cell that flows on", right, 1, 5, 175);
        left("flows through a cell", right, 2, 7, 175);
        left("a flow out of a cell with salt that came just now", right, 3, 2, 0);

        Aquiferward left = brackishInside();
        left.setRain(1, 0);
        left.setCell(0, -93, 50, 4);
        left.setCell(8, -95, 50, 0);
        left.setLeakage(0, 4);
        left.pass(1);
        left("a flow to a cell that leaks", left, 1, 7, 245);
        left("flows through a cell that leaks", left, 0, 5, 105);
        left("a leak of a cell with salt that came just now", left, 8, 2, 0);
    }

    /** "Rain and rivers bring none", also a river that drank salt further up. */
    private static void rainAndRiversBringNone() {
        Aquiferward land = brackishInside();
        land.setConductance(0, 0);
        land.setBed(1, -100, 4);
        land.setBed(0, 90, 4);
        land.setCell(0, 0, 50, 0);
        land.pass(1);
        left("a river that drinks ten of eleven", land, 1, 1, 32);
        left("a river that brings them further down", land, 0, 10, 0);
        due.is("account o", land.account('o'), 10);
        due.is("account i", land.account('i'), 10);
        land.setBed(1, 0, 0);
        land.setBed(0, 0, 0);
        land.setRain(1, 99);
        land.pass(1);
        left("rain", land, 1, 100, 32);
    }

    /** "Sea water brings 35 for each unit." */
    private static void seaWaterBrings35() {
        for (int cell = 0; cell < 16; cell += 8) {
            Aquiferward one = Lands.salty(cell, 1, 50);
            left("one unit from the sea in " + cell, one, cell, 1, 35);
            Aquiferward two = Lands.salty(cell, 2, 50);
            left("two units from the sea in " + cell, two, cell, 2, 70);
            Aquiferward most = Lands.still();
            most.setCell(cell, -100, 50, 0);
            most.setSea(9);
            most.pass(1);
            left("the most that comes in a month in " + cell, most, cell, 225, 7875);
            most.pass(1);
            left("a second month of it in " + cell, most, cell, 225 + 216, 15435);
        }
    }

    /** So much salt, and so much water that goes, that their product is greater than an int. */
    private static void muchSalt() {
        Aquiferward land = Lands.still();
        land.setCell(0, -100, 50, 0);
        land.setSea(9);
        Lands.pass(land, 240);
        land.setSea(0);
        int salt = 35 * land.water(0);
        due.is("salt of sea water alone", land.salt(0), salt);
        due.is("there is much of it", salt > 170000, true);
        land.setGround(0, 200);
        land.setRain(0, 99);
        Lands.pass(land, 96);
        int water = land.water(0);
        due.is("there is much water", water > 14000, true);
        land.setRain(0, 0);
        land.setGround(0, -99);
        land.pass(1);
        left("a spring for nearly all", land, 0, 50, salt - (int) ((long) salt * (water - 50) / water));
        land.setGround(0, -100);
        land.pass(1);
        left("a spring for all", land, 0, 0, 0);
    }

    /** "The water, 0 to 5000; its salt is gone". */
    private static void setWaterHasNoSalt() {
        for (int water : new int[] {0, 1, 10, 5000}) {
            Aquiferward land = Lands.salty(0, 10, 50);
            due.is("setCell of salt water to " + water, land.setCell(0, -10, 50, water), 10);
            left("setCell to " + water, land, 0, water, 0);
        }
        Aquiferward beside = Lands.salty(0, 10, 50);
        beside.setCell(8, 0, 10, 1);
        beside.setCell(1, 0, 10, 1);
        left("setCell of other cells", beside, 0, 10, 350);
    }
}
