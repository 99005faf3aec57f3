import java.util.NoSuchElementException;

/** Promises 10 to 12 and 17 to 22: wells, their rights, and what a well would have had without another one. */
public final class WellsTest {
    private static final Due due = new Due("WellsTest");

    public static void main(String[] args) {
        addWell();
        addWellWrongly();
        setWish();
        transfer();
        transferWrongly();
        asksWrongly();
        byAge();
        pumping();
        pumpingBehindTransfers();
        calls();
        callsReach();
        shutTillTheYearEnds();
        whoDoesNotCall();
        forfeits();
        forfeitsByTheWishAtTheEnd();
        forfeitsWithoutAnAmount();
        without();
        withoutTransfers();
        withoutChangesNothing();
        withoutForfeits();
        due.end();
    }

    private static void addWell() {
        Aquiferward land = new Aquiferward();
        due.is("addWell(0, 0, 0)", land.addWell(0, 0, 0), 0);
        due.is("addWell(15, 9999, 999)", land.addWell(15, 9999, 999), 1);
        due.is("amount(0)", land.amount(0), 0);
        due.is("amount(1)", land.amount(1), 999);
        due.is("yearly(1)", land.yearly(1), 0);
        due.is("pumped(1)", land.pumped(1), 0);
        due.is("isShut(1)", land.isShut(1), false);
        due.is("a new well has no wish", land.setWish(1, 1), 0);
        for (int well = 2; well < 6; well++) {
            due.is("addWell in one cell", land.addWell(15, 5, 1), well);
        }
        due.refused("a seventh well", IllegalStateException.class, () -> land.addWell(0, 0, 0));
        due.outOfBounds("a seventh well in no cell", () -> land.addWell(16, 10000, 0));
        due.illegal("a seventh well of no year", () -> land.addWell(0, 10000, 0));
        due.outOfBounds("still six wells", () -> land.amount(6));
    }

    private static void addWellWrongly() {
        Aquiferward land = new Aquiferward();
        due.outOfBounds("addWell(-1, ..)", () -> land.addWell(-1, 0, 0));
        due.outOfBounds("addWell(16, -1, -1)", () -> land.addWell(16, -1, -1));
        due.illegal("addWell year -1", () -> land.addWell(0, -1, 0));
        due.illegal("addWell year 10000", () -> land.addWell(0, 10000, 0));
        due.illegal("addWell amount -1", () -> land.addWell(0, 0, -1));
        due.illegal("addWell amount 1000", () -> land.addWell(0, 0, 1000));
        due.outOfBounds("still no well", () -> land.amount(0));
        due.is("the first well", land.addWell(0, 0, 0), 0);
    }

    private static void setWish() {
        Aquiferward land = new Aquiferward();
        due.outOfBounds("setWish without a well", () -> land.setWish(0, 100));
        land.addWell(0, 0, 10);
        due.is("setWish(0, 99)", land.setWish(0, 99), 0);
        due.is("setWish(0, 0)", land.setWish(0, 0), 99);
        due.is("setWish(0, 7)", land.setWish(0, 7), 0);
        due.outOfBounds("setWish(1, 0)", () -> land.setWish(1, 0));
        due.outOfBounds("setWish(-1, 100)", () -> land.setWish(-1, 100));
        due.illegal("setWish(0, -1)", () -> land.setWish(0, -1));
        due.illegal("setWish(0, 100)", () -> land.setWish(0, 100));
        due.is("setWish(0, 8)", land.setWish(0, 8), 7);
    }

    private static void transfer() {
        Aquiferward land = new Aquiferward();
        land.addWell(0, 0, 100);
        land.addWell(0, 0, 900);
        due.is("transfer(0, 1, 99)", land.transfer(0, 1, 99), 1);
        due.is("amount of the first", land.amount(0), 1);
        due.is("amount of the second", land.amount(1), 999);
        due.unsupported("one more than 999", () -> land.transfer(0, 1, 1));
        due.is("transfer(1, 0, 998)", land.transfer(1, 0, 998), 1);
        due.is("amount of the first", land.amount(0), 999);
        due.unsupported("more than it has", () -> land.transfer(1, 0, 2));
        due.is("transfer of nearly all", land.transfer(0, 1, 998), 1);
        land.addWell(0, 0, 0);
        due.is("transfer of the last", land.transfer(0, 2, 1), 0);
        due.is("amount of the third", land.amount(2), 1);
    }

    private static void transferWrongly() {
        Aquiferward land = new Aquiferward();
        land.addWell(0, 0, 100);
        land.addWell(0, 0, 950);
        due.outOfBounds("transfer(2, 0, 0)", () -> land.transfer(2, 0, 0));
        due.outOfBounds("transfer(0, 2, 1000)", () -> land.transfer(0, 2, 1000));
        due.outOfBounds("transfer(-1, -1, 1)", () -> land.transfer(-1, -1, 1));
        due.outOfBounds("transfer(0, -1, 1)", () -> land.transfer(0, -1, 1));
        due.illegal("transfer(0, 0, 0)", () -> land.transfer(0, 0, 0));
        due.illegal("transfer(0, 1, 0)", () -> land.transfer(0, 1, 0));
        due.illegal("transfer(0, 1, -1)", () -> land.transfer(0, 1, -1));
        due.illegal("transfer(0, 1, 1000)", () -> land.transfer(0, 1, 1000));
        due.unsupported("transfer(0, 0, 1)", () -> land.transfer(0, 0, 1));
        due.unsupported("transfer(0, 1, 101)", () -> land.transfer(0, 1, 101));
        due.unsupported("transfer(0, 1, 50)", () -> land.transfer(0, 1, 50));
        due.is("refused transfers change nothing", land.amount(0) * 1000 + land.amount(1), 100950);
    }

    private static void asksWrongly() {
        Aquiferward land = new Aquiferward();
        land.addWell(0, 0, 10);
        land.addWell(1, 0, 10);
        for (int well : new int[] {-1, 2, 6, Integer.MIN_VALUE, Integer.MAX_VALUE}) {
            due.outOfBounds("amount(" + well + ")", () -> land.amount(well));
            due.outOfBounds("yearly(" + well + ")", () -> land.yearly(well));
            due.outOfBounds("pumped(" + well + ")", () -> land.pumped(well));
            due.outOfBounds("isShut(" + well + ")", () -> land.isShut(well));
            due.refused("byAge(" + well + ")", NoSuchElementException.class, () -> land.byAge(well));
            due.outOfBounds("pumpedWithout(0, " + well + ")", () -> land.pumpedWithout(0, well));
            due.outOfBounds("pumpedWithout(" + well + ", 0)", () -> land.pumpedWithout(well, 0));
            due.outOfBounds("pumpedWithout twice " + well, () -> land.pumpedWithout(well, well));
        }
        due.unsupported("pumpedWithout(1, 1)", () -> land.pumpedWithout(1, 1));
        due.is("pumpedWithout(1, 0)", land.pumpedWithout(1, 0), 0);
    }

    private static void byAge() {
        Aquiferward land = new Aquiferward();
        int[] years = {50, 9999, 50, 0, 7, 50};
        for (int well = 0; well < 6; well++) {
            land.addWell(well, years[well], 1);
        }
        int[] want = {3, 4, 0, 2, 5, 1};
        for (int index = 0; index < 6; index++) {
            due.is("byAge(" + index + ")", land.byAge(index), want[index]);
        }
    }

    private static void pumping() {
        Aquiferward land = Lands.still();
        land.setCell(9, 0, 10, 500);
        land.addWell(9, 10, 25);
        land.setWish(0, 10);
        land.pass(1);
        due.is("a wish", land.pumped(0), 10);
        due.is("water that is left", land.water(9), 490);
        land.pass(1);
        due.is("in this year", land.yearly(0), 20);
        land.pass(1);
        due.is("no more than the amount", land.yearly(0), 25);
        land.pass(8);
        due.is("nothing more in this year", land.pumped(0), 25);
        due.is("no calls by this", land.events(), 0);
        land.pass(1);
        due.is("yearly behind the end of the year", land.yearly(0), 0);
        due.is("pumped behind the end of the year", land.pumped(0), 25);
        land.pass(1);
        due.is("a new year", land.yearly(0) * 1000 + land.pumped(0), 10035);
        due.is("account p", land.account('p'), 35);
    }

    private static void pumpingBehindTransfers() {
        Aquiferward land = Lands.still();
        land.setCell(0, 0, 10, 500);
        land.addWell(0, 0, 50);
        land.addWell(0, 0, 0);
        land.setWish(0, 30);
        land.setWish(1, 30);
        land.pass(1);
        due.is("a well without an amount", land.pumped(1), 0);
        due.is("transfer(0, 1, 40)", land.transfer(0, 1, 40), 10);
        due.is("what was pumped stays", land.yearly(0), 30);
        due.is("sound with less than was pumped", land.isSound(), true);
        land.pass(1);
        due.is("nothing is left for the first", land.pumped(0), 30);
        due.is("the second one pumps", land.pumped(1), 30);
        due.is("nobody calls", land.events(), 0);
        land.pass(11);
        due.is("the new year of the first", land.yearly(0), 10);
        due.is("the new year of the second", land.yearly(1), 30);
        due.is("sound behind that", land.isSound(), true);
    }

    private static void calls() {
        Aquiferward land = Lands.still();
        land.setCell(4, 0, 10, 15);
        land.setCell(5, 0, 10, 90);
        land.addWell(5, 20, 99);
        land.addWell(4, 10, 99);
        land.setWish(0, 5);
        land.setWish(1, 10);
        land.pass(1);
        due.is("nobody calls yet", land.events(), 0);
        due.is("the younger one pumps", land.pumped(0), 5);
        land.pass(1);
        due.is("the older one gets the rest", land.pumped(1), 15);
        due.is("the older one calls", land.events(), 1);
        due.is("its event", land.eventAt(0), 'c');
        due.is("the younger one is shut at once", land.isShut(0), true);
        due.is("it does not pump", land.pumped(0), 5);
        due.is("the caller is not shut", land.isShut(1), false);
        land.pass(1);
        due.is("it calls again", land.events(), 2);
        Aquiferward alike = Lands.still();
        alike.addWell(4, 10, 99);
        alike.addWell(4, 10, 99);
        alike.setWish(0, 1);
        alike.setWish(1, 1);
        alike.pass(1);
        due.is("of alike years the higher number is shut", alike.isShut(1), true);
        due.is("and the lower one is not", alike.isShut(0), false);
        due.is("one that is shut does not call", alike.events(), 1);
    }

    private static void callsReach() {
        int[] cells = {10, 11, 12, 13, 14};
        boolean[] shutBy12 = {true, true, false, true, true};
        Aquiferward land = Lands.still();
        for (int cell : cells) {
            land.addWell(cell, cell == 12 ? 5 : 6, 9);
        }
        land.addWell(4, 7, 9);
        land.setWish(2, 1);
        land.pass(1);
        for (int well = 0; well < 5; well++) {
            due.is("shut in the cell " + cells[well], land.isShut(well), shutBy12[well]);
        }
        due.is("the other layer is not shut", land.isShut(5), false);
        Aquiferward far = Lands.still();
        far.addWell(9, 0, 9);
        far.addWell(12, 1, 9);
        far.addWell(8, 1, 9);
        far.addWell(7, 1, 9);
        far.addWell(6, 1, 9);
        far.addWell(9, 1, 9);
        far.setWish(0, 1);
        far.pass(1);
        due.is("3 columns away", far.isShut(1), false);
        due.is("1 column away", far.isShut(2), true);
        due.is("the next number, but in the other layer", far.isShut(3), false);
        due.is("the other layer too", far.isShut(4), false);
        due.is("in the same cell", far.isShut(5), true);
        Aquiferward older = Lands.still();
        older.addWell(3, 9, 9);
        older.addWell(3, 8, 9);
        older.setWish(0, 1);
        older.pass(1);
        due.is("an older one is not shut", older.isShut(1), false);
        due.is("though the younger one calls", older.events(), 1);
    }

    private static void shutTillTheYearEnds() {
        Aquiferward land = Lands.still();
        land.setCell(1, 0, 10, 50);
        land.addWell(0, 0, 9);
        land.addWell(1, 1, 9);
        land.setWish(0, 1);
        land.setWish(1, 2);
        land.pass(1);
        land.setWish(0, 0);
        land.pass(10);
        due.is("shut in the month 11", land.isShut(1), true);
        due.is("nothing pumped while it was shut", land.pumped(1), 0);
        due.is("one call alone", land.events(), 1);
        land.addWell(0, 2, 9);
        due.is("a later well is open", land.isShut(2), false);
        land.pass(1);
        due.is("open behind the month 12", land.isShut(1), false);
        land.pass(1);
        due.is("it pumps again", land.pumped(1), 2);
    }

    private static void whoDoesNotCall() {
        Aquiferward land = Lands.still();
        land.setCell(0, 0, 10, 4);
        land.addWell(0, 0, 4);
        land.setWish(0, 10);
        land.pass(1);
        due.is("all that is left of the amount, and all the water", land.pumped(0), 4);
        due.is("no call by it", land.events(), 0);
        land.pass(11);
        due.is("no call with nothing left", land.events(), 0);
        land.setCell(0, 0, 10, 3);
        land.pass(1);
        due.is("less than what is left", land.pumped(0), 7);
        due.is("a call by it", land.events(), 1);
        Aquiferward idle = Lands.still();
        idle.addWell(0, 0, 9);
        idle.pass(1);
        due.is("no call without a wish", idle.events(), 0);
    }

    private static void forfeits() {
        Aquiferward land = Lands.still();
        land.addWell(0, 0, 9);
        land.addWell(7, 0, 9);
        land.setWish(0, 1);
        land.pass(24);
        land.pass(11);
        due.is("amount ahead of the third year's end", land.amount(0), 9);
        due.is("calls till then", land.events(), 35);
        land.pass(1);
        due.is("amount behind the third year's end", land.amount(0), 0);
        due.is("the event behind the calls", land.eventAt(36), 'f');
        due.is("the events", land.events(), 37);
        due.is("a right without a wish stays", land.amount(1), 9);
        land.transfer(1, 0, 5);
        land.pass(24);
        due.is("years are counted anew", land.amount(0), 5);
        land.pass(12);
        due.is("forfeited again", land.amount(0), 0);

        Aquiferward used = Lands.still();
        used.addWell(0, 0, 9);
        used.setWish(0, 1);
        used.pass(24);
        used.setCell(0, 0, 10, 1);
        used.pass(24);
        used.pass(11);
        due.is("a year with pumping breaks the row", used.amount(0), 9);
        used.pass(1);
        due.is("amount behind two years more", used.amount(0), 9);
        used.pass(12);
        due.is("amount behind three years more", used.amount(0), 0);

        Aquiferward shut = Lands.still();
        shut.setCell(1, 0, 10, 999);
        shut.addWell(0, 0, 9);
        shut.addWell(1, 1, 9);
        shut.setWish(0, 1);
        shut.setWish(1, 1);
        shut.pass(24);
        shut.pass(12);
        due.is("years of being shut count", shut.amount(1), 0);
    }

    private static void forfeitsByTheWishAtTheEnd() {
        Aquiferward land = Lands.still();
        land.addWell(0, 0, 9);
        land.addWell(7, 0, 9);
        land.pass(11);
        land.setWish(0, 1);
        land.setWish(1, 1);
        land.pass(1);
        land.setWish(0, 0);
        land.pass(11);
        land.setWish(0, 1);
        land.pass(12);
        land.setWish(1, 0);
        land.pass(12);
        due.is("wishes at three ends", land.amount(0), 0);
        due.is("a wish of 0 at one end breaks the row", land.amount(1), 9);
        land.setWish(1, 1);
        land.pass(24);
        due.is("two years behind the break", land.amount(1), 9);
        land.pass(12);
        due.is("three years behind the break", land.amount(1), 0);
    }

    private static void forfeitsWithoutAnAmount() {
        Aquiferward land = Lands.still();
        land.addWell(0, 0, 0);
        land.addWell(7, 0, 50);
        land.setWish(0, 1);
        land.pass(24);
        land.pass(24);
        due.is("nothing to forfeit", land.events(), 0);
        land.transfer(1, 0, 20);
        due.is("an amount in a row of 4 years", land.amount(0), 20);
        land.pass(11);
        due.is("it stays till the end of the year", land.amount(0), 20);
        land.pass(1);
        due.is("forfeited at the end of this year", land.amount(0), 0);
        due.is("the calls and the forfeit", land.events(), 13);
    }

    private static void without() {
        Aquiferward land = Lands.still();
        land.setCell(3, 0, 10, 60);
        land.setCell(4, 0, 10, 100);
        land.addWell(3, 1, 99);
        land.addWell(4, 2, 99);
        land.addWell(3, 3, 99);
        land.setWish(0, 40);
        land.setWish(1, 10);
        land.setWish(2, 15);
        land.pass(2);
        due.is("pumped(0)", land.pumped(0), 45);
        due.is("pumped(1)", land.pumped(1), 10);
        due.is("pumped(2)", land.pumped(2), 15);
        due.is("pumpedWithout(1, 0)", land.pumpedWithout(1, 0), 20);
        due.is("pumpedWithout(2, 0)", land.pumpedWithout(2, 0), 30);
        due.is("pumpedWithout(0, 1)", land.pumpedWithout(0, 1), 45);
        due.is("pumpedWithout(0, 2)", land.pumpedWithout(0, 2), 60);
        due.is("pumpedWithout(2, 1)", land.pumpedWithout(2, 1), 15);
        land.pass(1);
        due.is("pumpedWithout(1, 0) a month later", land.pumpedWithout(1, 0), 30);
        due.is("pumpedWithout(2, 0) a month later", land.pumpedWithout(2, 0), 45);
        land.setCell(3, 0, 10, 90);
        land.setWish(0, 0);
        land.setWish(2, 20);
        land.pass(1);
        due.is("cells are set in both", land.pumpedWithout(2, 0), 65);
    }

    private static void withoutTransfers() {
        Aquiferward land = Lands.still();
        land.setCell(0, 0, 50, 5000);
        land.addWell(0, 0, 100);
        land.addWell(0, 0, 10);
        land.addWell(0, 0, 0);
        land.transfer(0, 1, 30);
        land.transfer(1, 2, 35);
        land.setWish(1, 99);
        land.setWish(2, 99);
        land.pass(1);
        due.is("pumped(1)", land.pumped(1), 5);
        due.is("pumped(2)", land.pumped(2), 35);
        due.is("without what the other gave", land.pumpedWithout(1, 0), 10);
        due.is("without a transfer that was not possible", land.pumpedWithout(2, 0), 0);
        due.is("without what was given to the other", land.pumpedWithout(1, 2), 40);

        Aquiferward full = Lands.still();
        full.setCell(0, 0, 50, 5000);
        full.addWell(0, 0, 0);
        full.addWell(0, 0, 950);
        full.addWell(0, 0, 60);
        full.transfer(1, 0, 50);
        full.transfer(2, 1, 50);
        full.setWish(2, 99);
        full.pass(1);
        due.is("pumped(2) of the full land", full.pumped(2), 10);
        due.is("without one that would have been too much", full.pumpedWithout(2, 0), 60);

        Aquiferward refused = Lands.still();
        refused.setCell(0, 0, 50, 5000);
        refused.addWell(0, 0, 0);
        refused.addWell(0, 0, 10);
        refused.addWell(0, 0, 0);
        refused.transfer(1, 0, 10);
        due.unsupported("nothing is left to give", () -> refused.transfer(1, 2, 10));
        refused.setWish(1, 99);
        refused.pass(1);
        due.is("a refused transfer changes nothing", refused.pumpedWithout(1, 0), 10);
    }

    private static void withoutChangesNothing() {
        Aquiferward land = Lands.still();
        Aquiferward twin = Lands.still();
        for (Aquiferward each : new Aquiferward[] {land, twin}) {
            each.setCell(3, 0, 10, 30);
            each.addWell(3, 1, 99);
            each.addWell(3, 2, 99);
            each.setWish(0, 9);
            each.setWish(1, 9);
            each.setRain(3, 5);
        }
        for (int month = 1; month <= 40; month++) {
            land.pass(1);
            twin.pass(1);
            land.pumpedWithout(month % 2, 1 - month % 2);
        }
        due.is("checksum of a land that was asked", land.checksum(), twin.checksum());
        due.is("events of a land that was asked", land.events(), twin.events());
        due.is("pumped of a land that was asked", land.pumped(1), twin.pumped(1));
        due.is("asked often and once", land.pumpedWithout(1, 0), twin.pumpedWithout(1, 0));
        due.is("what rained alone", land.pumpedWithout(1, 0), 230);
        due.is("sound behind that", land.isSound(), true);
    }

    private static void withoutForfeits() {
        Aquiferward land = Lands.still();
        land.setRain(3, 5);
        land.addWell(3, 1, 99);
        land.addWell(3, 2, 99);
        land.setWish(0, 6);
        land.setWish(1, 5);
        land.pass(24);
        land.pass(12);
        due.is("forfeited by the older one", land.amount(1), 0);
        land.setWish(0, 0);
        land.pass(1);
        due.is("nothing pumped with the other", land.pumped(1), 0);
        due.is("not forfeited without it", land.pumpedWithout(1, 0), 185);
        due.is("the amount is as it is", land.amount(1), 0);
    }
}
