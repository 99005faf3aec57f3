import java.lang.reflect.Field;

/**
 * Promise 29: isSound tells each thing that does not hold. No run of calls leads to such a land, so the test changes
 * the land from inside, by the names of its private fields.
 */
public final class SoundTest {
    private static final Due due = new Due("SoundTest");

    public static void main(String[] args) throws ReflectiveOperationException {
        booksThatDoNotClose();
        waterThatIsNotWhereItWasMade();
        waterThatIsTooMuch();
        moreThanTheAmount();
        transfersAside();
        due.end();
    }

    /** A land at the month 14, whose wells pumped 6 of 20 and 8 of 30 in this year. */
    private static Aquiferward land() {
        Aquiferward land = new Aquiferward();
        for (int cell = 0; cell < 16; cell++) {
            land.setCell(cell, cell % 5 - 2, 10, 60 + cell);
        }
        land.setCell(8, -30, 10, 60);
        land.setRain(4, 7);
        land.setRiver(9);
        land.setBed(3, 20, 2);
        land.setBed(2, -20, 2);
        land.setGround(6, 3);
        land.setSea(4);
        land.addWell(5, 0, 20);
        land.addWell(12, 0, 30);
        land.setWish(0, 3);
        land.setWish(1, 4);
        land.pass(14);
        due.is("yearly of the wells", land.yearly(0) * 10 + land.yearly(1), 68);
        for (char what : "wrpiosnml".toCharArray()) {
            due.is("account " + what + " is not 0", land.account(what) != 0, true);
        }
        due.is("sound as it is", land.isSound(), true);
        return land;
    }

    private static Object inside(Object owner, String name) throws ReflectiveOperationException {
        Field field = owner.getClass().getDeclaredField(name);
        field.setAccessible(true);
        return field.get(owner);
    }

    private static Object inWorld(Aquiferward land, String part, String row) throws ReflectiveOperationException {
        return inside(inside(inside(land, "world"), part), row);
    }

    /** "What was set, rained, came from river and sea is what there is, was pumped, went into river and sea and by springs". */
    private static void booksThatDoNotClose() throws ReflectiveOperationException {
        String names = "wrpiosnm";
        for (int at = 0; at < names.length(); at++) {
            for (int change : new int[] {-1, 1}) {
                Aquiferward land = land();
                long[] sums = (long[]) inWorld(land, "books", "sums");
                sums[at] += change;
                due.is("sound with " + change + " in the account " + names.charAt(at), land.isSound(), false);
                sums[at] -= change;
                due.is("sound with the account " + names.charAt(at) + " as it was", land.isSound(), true);
            }
        }
    }

    /** "All done again from the beginning comes to the same water": the books close, but a unit is in another cell. */
    private static void waterThatIsNotWhereItWasMade() throws ReflectiveOperationException {
        for (int cell = 0; cell < 16; cell++) {
            Aquiferward land = land();
            int[] water = (int[]) inWorld(land, "cells", "water");
            int other = (cell + 5) % 16;
            int moved = water[cell] > 0 ? 1 : -1;
            water[cell] -= moved;
            water[other] += moved;
            due.is("sound with a unit of " + cell + " in " + other, land.isSound(), false);
            water[cell] += moved;
            water[other] -= moved;
            due.is("sound with the water as it was", land.isSound(), true);
        }
    }

    private static void waterThatIsTooMuch() throws ReflectiveOperationException {
        for (int cell = 0; cell < 16; cell++) {
            Aquiferward land = land();
            ((int[]) inWorld(land, "cells", "water"))[cell]++;
            due.is("sound with a unit too much in " + cell, land.isSound(), false);
        }
    }

    /** "No well pumped more than its amount in this year": just the amount, and one unit more. */
    private static void moreThanTheAmount() throws ReflectiveOperationException {
        int[] amounts = {20, 30};
        for (int well = 0; well < 2; well++) {
            Aquiferward land = land();
            int[] thisYear = (int[]) inWorld(land, "wells", "thisYear");
            thisYear[well] = amounts[well];
            due.is("sound with all of the amount of " + well, land.isSound(), true);
            thisYear[well] = amounts[well] + 1;
            due.is("sound with one unit more than the amount of " + well, land.isSound(), false);
        }
    }

    /** "Transfers aside": what was given away in this year counts, what was given in the year before does not. */
    private static void transfersAside() throws ReflectiveOperationException {
        Aquiferward land = land();
        land.transfer(0, 1, 18);
        int[] thisYear = (int[]) inWorld(land, "wells", "thisYear");
        due.is("sound with 6 pumped and 2 left", land.isSound(), true);
        thisYear[0] = 20;
        due.is("sound with all of the amount pumped ahead of the transfer", land.isSound(), true);
        thisYear[0] = 21;
        due.is("sound with one unit more than there was ahead of it", land.isSound(), false);
        thisYear[0] = 6;
        land.pass(11);
        due.is("sound in the next year", land.isSound(), true);
        thisYear[0] = 3;
        due.is("sound with one unit more in the year behind a transfer", land.isSound(), false);
    }
}
