import java.util.ArrayList;
import java.util.List;
import java.util.NoSuchElementException;

/** "A method that throws an exception changes nothing", and "the one that is documented first is thrown". */
public final class RefusalTest {
    private static final Due due = new Due("RefusalTest");
    private static final int WELLS = 6;

    private static final Class<IndexOutOfBoundsException> INDEX = IndexOutOfBoundsException.class;
    private static final Class<IllegalArgumentException> ILLEGAL = IllegalArgumentException.class;
    private static final Class<UnsupportedOperationException> UNSUPPORTED = UnsupportedOperationException.class;

    /** A call that is refused. */
    private interface Call {
        Object on(Aquiferward land);
    }

    private record Refusal(String call, Class<? extends RuntimeException> thrown, Call made) {
    }

    private static final List<Refusal> refusals = new ArrayList<>();

    public static void main(String[] args) {
        refusalsOfTheLand();
        refusalsOfWells();
        refusalsOfTransfers();
        refusalsOfAsking();
        theBusyLandIsBusy();
        changeNothingInABusyLand();
        changeNothingAtTheLastMonth();
        changeNothingInANewLand();
        firstExceptionWithoutWells();
        due.end();
    }

    private static void refused(String call, Class<? extends RuntimeException> thrown, Call made) {
        refusals.add(new Refusal(call, thrown, made));
    }

    /** The index ahead of the numbers, where both are wrong. */
    private static void refusalsOfTheLand() {
        refused("setCell(16, 0, 10, 0)", INDEX, land -> land.setCell(16, 0, 10, 0));
        refused("setCell(-1, 101, 10, 0)", INDEX, land -> land.setCell(-1, 101, 10, 0));
        refused("setCell(16, 0, 51, 0)", INDEX, land -> land.setCell(16, 0, 51, 0));
        refused("setCell(16, 0, 10, 5001)", INDEX, land -> land.setCell(16, 0, 10, 5001));
        refused("setCell(-1, -101, 0, -1)", INDEX, land -> land.setCell(-1, -101, 0, -1));
        refused("setCell(8, 101, 1, 7)", ILLEGAL, land -> land.setCell(8, 101, 1, 7));
        refused("setCell(8, -101, 1, 7)", ILLEGAL, land -> land.setCell(8, -101, 1, 7));
        refused("setCell(8, 7, 0, 7)", ILLEGAL, land -> land.setCell(8, 7, 0, 7));
        refused("setCell(8, 7, 51, 7)", ILLEGAL, land -> land.setCell(8, 7, 51, 7));
        refused("setCell(8, 7, 1, -1)", ILLEGAL, land -> land.setCell(8, 7, 1, -1));
        refused("setCell(8, 7, 1, 5001)", ILLEGAL, land -> land.setCell(8, 7, 1, 5001));
        refused("setGround(8, 0)", INDEX, land -> land.setGround(8, 0));
        refused("setGround(-1, 201)", INDEX, land -> land.setGround(-1, 201));
        refused("setGround(2, 201)", ILLEGAL, land -> land.setGround(2, 201));
        refused("setGround(2, -101)", ILLEGAL, land -> land.setGround(2, -101));
        refused("setConductance(2, 0)", INDEX, land -> land.setConductance(2, 0));
        refused("setConductance(-1, 10)", INDEX, land -> land.setConductance(-1, 10));
        refused("setConductance(1, 10)", ILLEGAL, land -> land.setConductance(1, 10));
        refused("setConductance(0, -1)", ILLEGAL, land -> land.setConductance(0, -1));
        refused("setLeakage(8, 0)", INDEX, land -> land.setLeakage(8, 0));
        refused("setLeakage(-1, -1)", INDEX, land -> land.setLeakage(-1, -1));
        refused("setLeakage(0, 10)", ILLEGAL, land -> land.setLeakage(0, 10));
        refused("setLeakage(0, -1)", ILLEGAL, land -> land.setLeakage(0, -1));
        refused("setRain(8, 0)", INDEX, land -> land.setRain(8, 0));
        refused("setRain(-1, 100)", INDEX, land -> land.setRain(-1, 100));
        refused("setRain(7, 100)", ILLEGAL, land -> land.setRain(7, 100));
        refused("setRain(7, -1)", ILLEGAL, land -> land.setRain(7, -1));
        refused("setBed(8, 0, 0)", INDEX, land -> land.setBed(8, 0, 0));
        refused("setBed(-1, 101, 0)", INDEX, land -> land.setBed(-1, 101, 0));
        refused("setBed(8, 0, 10)", INDEX, land -> land.setBed(8, 0, 10));
        refused("setBed(4, 101, 1)", ILLEGAL, land -> land.setBed(4, 101, 1));
        refused("setBed(4, -101, 1)", ILLEGAL, land -> land.setBed(4, -101, 1));
        refused("setBed(4, 50, 10)", ILLEGAL, land -> land.setBed(4, 50, 10));
        refused("setBed(4, 50, -1)", ILLEGAL, land -> land.setBed(4, 50, -1));
        refused("setRiver(1000)", ILLEGAL, land -> land.setRiver(1000));
        refused("setRiver(-1)", ILLEGAL, land -> land.setRiver(-1));
        refused("setSea(10)", ILLEGAL, land -> land.setSea(10));
        refused("setSea(-1)", ILLEGAL, land -> land.setSea(-1));
    }

    /** Of three exceptions the first one, and of the last two the second one; the land has 6 wells. */
    private static void refusalsOfWells() {
        refused("addWell(0, 0, 1) as the seventh", IllegalStateException.class, land -> land.addWell(0, 0, 1));
        refused("addWell(15, 9999, 999) as the seventh", IllegalStateException.class, land -> land.addWell(15, 9999, 999));
        refused("addWell(0, 10000, 1) as the seventh", ILLEGAL, land -> land.addWell(0, 10000, 1));
        refused("addWell(0, -1, 1) as the seventh", ILLEGAL, land -> land.addWell(0, -1, 1));
        refused("addWell(0, 0, 1000) as the seventh", ILLEGAL, land -> land.addWell(0, 0, 1000));
        refused("addWell(0, 0, -1) as the seventh", ILLEGAL, land -> land.addWell(0, 0, -1));
        refused("addWell(16, 0, 1) as the seventh", INDEX, land -> land.addWell(16, 0, 1));
        refused("addWell(-1, 10000, 1000) as the seventh", INDEX, land -> land.addWell(-1, 10000, 1000));
        refused("setWish(6, 1)", INDEX, land -> land.setWish(6, 1));
        refused("setWish(-1, 100)", INDEX, land -> land.setWish(-1, 100));
        refused("setWish(6, -1)", INDEX, land -> land.setWish(6, -1));
        refused("setWish(1, 100)", ILLEGAL, land -> land.setWish(1, 100));
        refused("setWish(1, -1)", ILLEGAL, land -> land.setWish(1, -1));
        refused("pass(0)", ILLEGAL, land -> land.pass(0));
        refused("pass(-1)", ILLEGAL, land -> land.pass(-1));
        refused("pass(25)", ILLEGAL, land -> land.pass(25));
        refused("pass(MAX)", ILLEGAL, land -> land.pass(Integer.MAX_VALUE));
    }

    /** The well 3 of the busy land has an amount of 2, the well 5 one of 999. */
    private static void refusalsOfTransfers() {
        refused("transfer(6, 0, 1)", INDEX, land -> land.transfer(6, 0, 1));
        refused("transfer(0, 6, 1)", INDEX, land -> land.transfer(0, 6, 1));
        refused("transfer(-1, 0, 0)", INDEX, land -> land.transfer(-1, 0, 0));
        refused("transfer(0, -1, 1000)", INDEX, land -> land.transfer(0, -1, 1000));
        refused("transfer(6, 6, 1)", INDEX, land -> land.transfer(6, 6, 1));
        refused("transfer(3, 6, 3)", INDEX, land -> land.transfer(3, 6, 3));
        refused("transfer(6, 5, 999)", INDEX, land -> land.transfer(6, 5, 999));
        refused("transfer(0, 1, 0)", ILLEGAL, land -> land.transfer(0, 1, 0));
        refused("transfer(0, 1, 1000)", ILLEGAL, land -> land.transfer(0, 1, 1000));
        refused("transfer(3, 1, 1000)", ILLEGAL, land -> land.transfer(3, 1, 1000));
        refused("transfer(2, 2, 0)", ILLEGAL, land -> land.transfer(2, 2, 0));
        refused("transfer(2, 2, 1000)", ILLEGAL, land -> land.transfer(2, 2, 1000));
        refused("transfer(0, 5, -1)", ILLEGAL, land -> land.transfer(0, 5, -1));
        refused("transfer(2, 2, 1), both the same", UNSUPPORTED, land -> land.transfer(2, 2, 1));
        refused("transfer(3, 1, 3), one more than it has", UNSUPPORTED, land -> land.transfer(3, 1, 3));
        refused("transfer(0, 5, 1), one more than 999", UNSUPPORTED, land -> land.transfer(0, 5, 1));
        refused("transfer(3, 5, 3), too much for both", UNSUPPORTED, land -> land.transfer(3, 5, 3));
        refused("transfer(3, 3, 3), for all reasons", UNSUPPORTED, land -> land.transfer(3, 3, 3));
    }

    private static void refusalsOfAsking() {
        refused("level(16)", INDEX, land -> land.level(16));
        refused("water(-1)", INDEX, land -> land.water(-1));
        refused("salt(16)", INDEX, land -> land.salt(16));
        refused("amount(6)", INDEX, land -> land.amount(6));
        refused("yearly(6)", INDEX, land -> land.yearly(6));
        refused("pumped(6)", INDEX, land -> land.pumped(6));
        refused("isShut(6)", INDEX, land -> land.isShut(6));
        refused("byAge(6)", NoSuchElementException.class, land -> land.byAge(6));
        refused("pumpedWithout(6, 0)", INDEX, land -> land.pumpedWithout(6, 0));
        refused("pumpedWithout(0, 6)", INDEX, land -> land.pumpedWithout(0, 6));
        refused("pumpedWithout(6, 6), both the same", INDEX, land -> land.pumpedWithout(6, 6));
        refused("pumpedWithout(-1, -1), both the same", INDEX, land -> land.pumpedWithout(-1, -1));
        refused("pumpedWithout(0, 0)", UNSUPPORTED, land -> land.pumpedWithout(0, 0));
        refused("pumpedWithout(5, 5)", UNSUPPORTED, land -> land.pumpedWithout(5, 5));
        refused("eventAt(-1)", INDEX, land -> land.eventAt(-1));
        refused("eventAt behind the last", INDEX, land -> land.eventAt(land.events()));
        refused("account(x)", ILLEGAL, land -> land.account('x'));
    }

    /** A land in which all goes on that can go on: 6 wells, some of them shut, a forfeited right, salt and a river. */
    private static Aquiferward busy() {
        Aquiferward land = new Aquiferward();
        int[] cells = {1, 2, 9, 3, 4, 15};
        int[] years = {5, 5, 7, 1, 9, 2};
        int[] amounts = {70, 40, 300, 2, 25, 999};
        int[] wishes = {20, 9, 30, 1, 6, 40};
        for (int column = 0; column < 8; column++) {
            land.setCell(column, 5 - column, 10 + column, 30 * column);
            land.setCell(8 + column, column - 20, 30 - column, 80 * column);
            land.setLeakage(column, 1 + column % 3);
            land.setRain(column, (9 + 5 * column) % 13);
            land.setBed(column, column - 3, 1 + column % 4);
            land.setGround(column, 7 - column);
        }
        land.setConductance(0, 5);
        land.setConductance(1, 3);
        land.setRiver(6);
        land.setSea(3);
        for (int well = 0; well < WELLS; well++) {
            land.addWell(cells[well], years[well], amounts[well]);
            land.setWish(well, wishes[well]);
        }
        land.transfer(2, 0, 13);
        land.pass(15);
        return land;
    }

    /** Else the refusals would be asked of a land that is less than busy. */
    private static void theBusyLandIsBusy() {
        Aquiferward land = busy();
        due.is("a well that is shut", land.isShut(1), true);
        due.is("an event", land.eventAt(0), 'c');
        due.is("salt below the first cell", land.salt(8) > 0, true);
        due.is("amounts of the wells", land.amount(0) + land.amount(2), 370);
        due.is("the amount of the well 3", land.amount(3), 2);
        due.is("the amount of the well 5", land.amount(5), 999);
        for (char what : "wrpiosnm".toCharArray()) {
            due.is("account " + what + " is not 0", land.account(what) != 0, true);
        }
    }

    private static void changeNothingInABusyLand() {
        Aquiferward twin = busy();
        String look = Look.at(twin, WELLS);
        twin.pass(12);
        String later = Look.at(twin, WELLS);
        String settings = Look.atSettings(twin, WELLS);
        for (Refusal refusal : refusals) {
            Aquiferward land = busy();
            due.refused(refusal.call, refusal.thrown, () -> refusal.made.on(land));
            due.is("all behind " + refusal.call, Look.at(land, WELLS), look);
            land.pass(12);
            due.is("all a year behind " + refusal.call, Look.at(land, WELLS), later);
            due.is("settings behind " + refusal.call, Look.atSettings(land, WELLS), settings);
        }
    }

    private static Aquiferward busyAtTheLastMonth(int month) {
        Aquiferward land = busy();
        Lands.pass(land, month - 15);
        return land;
    }

    /** A pass that goes beyond the month 600 does not begin, not even by the months that there would be. */
    private static void changeNothingAtTheLastMonth() {
        String look = Look.at(busyAtTheLastMonth(599), WELLS);
        for (int months = 2; months <= 24; months += 11) {
            int asked = months;
            Aquiferward land = busyAtTheLastMonth(599);
            due.refused("pass(" + asked + ") at 599", ArithmeticException.class, () -> land.pass(asked));
            due.is("all behind pass(" + asked + ") at 599", Look.at(land, WELLS), look);
            due.is("pass(1) behind pass(" + asked + ") at 599", land.pass(1), 600);
        }
        String last = Look.at(busyAtTheLastMonth(600), WELLS);
        Aquiferward land = busyAtTheLastMonth(600);
        due.refused("pass(1) at 600", ArithmeticException.class, () -> land.pass(1));
        due.is("all behind pass(1) at 600", Look.at(land, WELLS), last);
    }

    private static void changeNothingInANewLand() {
        String look = Look.at(new Aquiferward(), 0);
        String settings = Look.atSettings(new Aquiferward(), 0);
        Aquiferward land = new Aquiferward();
        for (Refusal refusal : refusals) {
            if (!refusal.call.contains("as the seventh")) {
                due.is(refusal.call + " in a new land is refused", isRefused(refusal, land), true);
            }
        }
        due.is("all behind refusals in a new land", Look.at(land, 0), look);
        due.is("settings behind refusals in a new land", Look.atSettings(land, 0), settings);
    }

    private static boolean isRefused(Refusal refusal, Aquiferward land) {
        try {
            refusal.made.on(land);
            return false;
        } catch (RuntimeException thrown) {
            return true;
        }
    }

    /** Where there is no well at all, this comes first. */
    private static void firstExceptionWithoutWells() {
        Aquiferward land = new Aquiferward();
        due.outOfBounds("setWish(0, 100) without wells", () -> land.setWish(0, 100));
        due.outOfBounds("transfer(0, 0, 0) without wells", () -> land.transfer(0, 0, 0));
        due.outOfBounds("transfer(0, 0, 1) without wells", () -> land.transfer(0, 0, 1));
        due.outOfBounds("pumpedWithout(0, 0) without wells", () -> land.pumpedWithout(0, 0));
        due.is("the first well behind that", land.addWell(0, 0, 0), 0);
        due.outOfBounds("transfer(0, 1, 0) with one well", () -> land.transfer(0, 1, 0));
        due.unsupported("transfer(0, 0, 1) with one well", () -> land.transfer(0, 0, 1));
        due.unsupported("pumpedWithout(0, 0) with one well", () -> land.pumpedWithout(0, 0));
    }
}
