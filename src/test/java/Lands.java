/** Lands with which tests begin, and figures that several tests ask for. */
final class Lands {
    static final int SALT_OF_SEA = 35;

    private Lands() {
    }

    /** A land in which no water flows between the cells. */
    static Aquiferward still() {
        Aquiferward land = new Aquiferward();
        land.setConductance(0, 0);
        land.setConductance(1, 0);
        return land;
    }

    /** A still land at the month 1 whose cell, 0 or 8, holds so much sea water above a base as far below 0. */
    static Aquiferward salty(int cell, int water, int storage) {
        Aquiferward land = still();
        land.setCell(cell, -water, storage, 0);
        land.setSea(4);
        land.pass(1);
        land.setSea(0);
        return land;
    }

    /** A cell whose level is its base, with nearly as much water as makes its level 1 higher. */
    static void setNearlyHigher(Aquiferward land, int cell, int base) {
        land.setCell(cell, base, 50, 49);
    }

    static long waterInAll(Aquiferward land) {
        long sum = 0;
        for (int cell = 0; cell < 16; cell++) {
            sum += land.water(cell);
        }
        return sum;
    }

    static long saltInAll(Aquiferward land) {
        long sum = 0;
        for (int cell = 0; cell < 16; cell++) {
            sum += land.salt(cell);
        }
        return sum;
    }

    /** Lets so many months pass, which may be more than a single call allows. */
    static void pass(Aquiferward land, int months) {
        for (int left = months; left > 0; left -= 24) {
            land.pass(Math.min(left, 24));
        }
    }
}
