/** The edges of the flows between cells. */
public final class FlowEdgesTest {
    private static final Due due = new Due("FlowEdgesTest");
    /** Difference of levels, strength, and how many units flow by these: "divided by 4, cut towards 0". */
    private static final int[][] FLOWS = {
        {0, 9, 0}, {1, 0, 0}, {1, 1, 0}, {1, 3, 0}, {1, 4, 1}, {1, 7, 1}, {1, 8, 2}, {1, 9, 2}, {3, 1, 0}, {4, 1, 1}, {5, 1, 1},
        {7, 1, 1}, {8, 1, 2}, {2, 9, 4}, {3, 9, 6}, {3, 5, 3}, {21, 9, 47}, {9, 0, 0}};

    public static void main(String[] args) {
        cutTowardsNought();
        toNeighboursAlone();
        untilNothingIsLeft();
        whatComesInStays();
        allAtOnce();
        behindPumping();
        behindRain();
        greatDifferences();
        due.end();
    }

    private static int layer(int cell) {
        return cell / 8;
    }

    private static boolean areNeighbours(int one, int other) {
        return layer(one) == layer(other) ? Math.abs(one - other) == 1 : one % 8 == other % 8;
    }

    private static void setStrength(Aquiferward land, int from, int to, int strength) {
        if (layer(from) == layer(to)) {
            land.setConductance(layer(from), strength);
        } else {
            land.setLeakage(from % 8, strength);
        }
    }

    /** From each cell to each neighbour, so in all four directions: the others are too high, and have nothing to give. */
    private static void cutTowardsNought() {
        for (int from = 0; from < 16; from++) {
            for (int to = 0; to < 16; to++) {
                if (areNeighbours(from, to)) {
                    for (int[] flow : FLOWS) {
                        flowsBetween(from, to, flow[0], flow[1], flow[2]);
                    }
                }
            }
        }
    }

    private static void flowsBetween(int from, int to, int difference, int strength, int want) {
        Aquiferward land = Lands.still();
        for (int cell = 0; cell < 16; cell++) {
            land.setCell(cell, -30 + difference, 50, 0);
        }
        Lands.setNearlyHigher(land, from, -30 + difference);
        land.setCell(to, -30, 50, 0);
        setStrength(land, from, to, strength);
        land.pass(1);
        String of = " of " + difference + " times " + strength + " from " + from + " to " + to;
        due.is("what comes" + of, land.water(to), want);
        due.is("what stays" + of, land.water(from), 49 - want);
        due.is("what there is" + of, Lands.waterInAll(land), 49);
    }

    /** "From a column to the next one, in each layer", "from the upper to the lower cell": and nowhere else, not round the ends. */
    private static void toNeighboursAlone() {
        for (int from = 0; from < 16; from++) {
            Aquiferward land = new Aquiferward();
            for (int column = 0; column < 8; column++) {
                land.setLeakage(column, 4);
            }
            Lands.setNearlyHigher(land, from, 5);
            land.pass(1);
            for (int cell = 0; cell < 16; cell++) {
                if (cell != from) {
                    due.is("from " + from + " to " + cell, land.water(cell), areNeighbours(from, cell) ? 5 : 0);
                }
            }
        }
    }

    /**
     * "To the column with the lower number, to that with the higher one, to the other layer", "until nothing is left":
     * 4, 5 and 6 units would go, with each amount of water from none to one more than all of them.
     */
    private static void untilNothingIsLeft() {
        for (int from = 0; from < 16; from++) {
            int lower = from % 8 > 0 ? 4 : 0;
            int higher = from % 8 < 7 ? 5 : 0;
            for (int water = 0; water <= 16; water++) {
                Aquiferward land = sharing(from, water);
                land.pass(1);
                String of = " of " + water + " in " + from;
                int first = Math.min(lower, water);
                int second = Math.min(higher, water - first);
                int third = Math.min(6, water - first - second);
                if (lower > 0) {
                    due.is("to the lower number" + of, land.water(from - 1), first);
                }
                if (higher > 0) {
                    due.is("to the higher number" + of, land.water(from + 1), second);
                }
                due.is("to the other layer" + of, land.water((from + 8) % 16), third);
                due.is("what is left" + of, land.water(from), water - first - second - third);
            }
        }
    }

    private static Aquiferward sharing(int from, int water) {
        Aquiferward land = new Aquiferward();
        for (int cell = 0; cell < 16; cell++) {
            land.setCell(cell, 10, 50, 0);
        }
        land.setCell(from, 10, 50, water);
        if (from % 8 > 0) {
            land.setCell(from - 1, 6, 50, 0);
        }
        if (from % 8 < 7) {
            land.setCell(from + 1, 5, 50, 0);
        }
        land.setCell((from + 8) % 16, 4, 50, 0);
        land.setLeakage(from % 8, 4);
        return land;
    }

    /** Through an empty cell nothing flows in the same month, be it to the right, to the left, down or up. */
    private static void whatComesInStays() {
        int[][] ways = {{1, 2, 3}, {6, 5, 4}, {8, 9, 10}, {15, 14, 13}, {3, 4, 12}, {3, 2, 10}, {11, 12, 4}, {4, 12, 13}, {12, 4, 3}};
        for (int[] way : ways) {
            for (int has = 0; has <= 6; has++) {
                Aquiferward land = onTheWay(way, has);
                land.pass(1);
                String of = " by " + way[0] + " " + way[1] + " " + way[2] + " with " + has;
                int out = Math.min(4, has);
                due.is("left behind" + of, land.water(way[0]), 45);
                due.is("what came, and did not go on" + of, land.water(way[1]), has - out + 4);
                due.is("what went on, of what was there" + of, land.water(way[2]), out);
            }
        }
    }

    /** Levels of 8, 4 and 0 on the way, and as high ones beside it. */
    private static Aquiferward onTheWay(int[] way, int has) {
        Aquiferward land = new Aquiferward();
        for (int cell = 0; cell < 16; cell++) {
            land.setCell(cell, 8, 50, 0);
        }
        Lands.setNearlyHigher(land, way[0], 8);
        land.setCell(way[1], 4, 50, has);
        land.setCell(way[2], 0, 50, 0);
        for (int at = 0; at < 2; at++) {
            if (layer(way[at]) != layer(way[at + 1])) {
                land.setLeakage(way[at] % 8, 4);
            }
        }
        return land;
    }

    /** "All go by the levels that are there behind pumping, at once": the levels of 20, 10 and 0 tell of 10 units for each. */
    private static void allAtOnce() {
        Aquiferward right = new Aquiferward();
        Aquiferward left = new Aquiferward();
        for (int cell = 0; cell < 3; cell++) {
            right.setCell(cell, 0, 1, 20 - 10 * cell);
            left.setCell(7 - cell, 0, 1, 20 - 10 * cell);
        }
        right.setCell(3, 0, 1, 0);
        left.setCell(4, 0, 1, 0);
        right.pass(1);
        left.pass(1);
        int[] want = {10, 10, 10, 0};
        for (int cell = 0; cell < 4; cell++) {
            due.is("behind levels of 20, 10 and 0 to the right: " + cell, right.water(cell), want[cell]);
            due.is("behind levels of 20, 10 and 0 to the left: " + cell, left.water(7 - cell), want[cell]);
        }
        Aquiferward down = Lands.still();
        down.setLeakage(5, 4);
        down.setConductance(0, 4);
        down.setCell(5, 0, 1, 9);
        down.setCell(13, 0, 1, 3);
        down.setCell(4, 0, 1, 5);
        down.setCell(6, 0, 1, 20);
        down.pass(1);
        due.is("4 to the left, 6 down, but 9 there", down.water(5), 11);
        due.is("4 came to the left", down.water(4), 4);
        due.is("5 came down", down.water(13), 8);
        due.is("11 went from the right, and 9 more to its right", down.water(6), 0);
    }

    /** The level that a well left: just one step less, and just the same one. */
    private static void behindPumping() {
        for (int wish = 0; wish <= 21; wish++) {
            Aquiferward land = new Aquiferward();
            land.setCell(7, 0, 10, 39);
            land.addWell(7, 0, 99);
            land.setWish(0, wish);
            land.pass(1);
            int want = wish < 10 ? 3 : wish < 20 ? 2 : 1;
            due.is("what flows behind a wish of " + wish, land.water(6), want);
            due.is("what stays behind a wish of " + wish, land.water(7), 39 - wish - want);
        }
    }

    private static void behindRain() {
        Aquiferward land = new Aquiferward();
        land.setCell(7, 0, 10, 9);
        land.setRain(7, 1);
        land.pass(1);
        due.is("what flows behind the last unit of rain", land.water(6), 1);
        due.is("what stays behind rain", land.water(7), 9);
    }

    /** The greatest difference of levels, the greatest strength, and all the water goes. */
    private static void greatDifferences() {
        Aquiferward land = new Aquiferward();
        land.setConductance(1, 9);
        land.setCell(9, 100, 1, 5000);
        land.setCell(8, -100, 1, 0);
        land.pass(1);
        due.is("all goes to the lower number", land.water(8), 5000);
        due.is("none stays", land.water(9), 0);
        due.is("none goes to the higher number", land.water(10), 0);
        Aquiferward last = new Aquiferward();
        last.setConductance(1, 9);
        last.setCell(9, 0, 50, 5000);
        last.setCell(8, -100, 50, 0);
        last.setCell(10, -100, 50, 0);
        last.pass(1);
        due.is("200 times 9 by 4 to the lower number", last.water(8), 450);
        due.is("200 times 9 by 4 to the higher number", last.water(10), 450);
        due.is("the rest stays", last.water(9), 4100);
    }
}
