/** The edges of months and years: what begins anew, rights that are forfeited, and the order of a month and of events. */
public final class YearEdgesTest {
    private static final Due due = new Due("YearEdgesTest");

    public static void main(String[] args) {
        yearlyOfEachMonth();
        yearEndsInAPass();
        threeYearsInARow();
        wishAtTheEndOfTheYear();
        aUnitBreaksTheRow();
        rowsOfARightWithoutAnAmount();
        countedAnew();
        anyAmountIsForfeited();
        severalAreForfeitedAtOnce();
        aForfeitedRightIsStillThere();
        ordersOfAMonth();
        eventsOfTheLastMonthOfARow();
        eventsAreKeptInARow();
        due.end();
    }

    /** Behind each 12th month, and behind no other one, what was pumped in this year is 0 again. */
    private static void yearlyOfEachMonth() {
        Aquiferward land = Lands.still();
        land.setCell(4, 0, 50, 5000);
        land.addWell(4, 0, 999);
        land.setWish(0, 3);
        for (int month = 1; month <= 37; month++) {
            due.is("month", land.pass(1), month);
            due.is("yearly behind " + month, land.yearly(0), 3 * (month % 12));
            due.is("pumped behind " + month, land.pumped(0), 3 * month);
        }
    }

    private static void yearEndsInAPass() {
        for (int first = 1; first <= 13; first++) {
            for (int second = 1; second <= 24; second++) {
                Aquiferward land = Lands.still();
                land.setCell(4, 0, 50, 5000);
                land.addWell(4, 0, 12);
                land.setWish(0, 5);
                land.pass(first);
                land.pass(second);
                int month = first + second;
                int rest = month % 12;
                String of = " behind " + first + " and " + second;
                due.is("yearly" + of, land.yearly(0), Math.min(12, 5 * rest));
                due.is("pumped" + of, land.pumped(0), month / 12 * 12 + Math.min(12, 5 * rest));
            }
        }
    }

    /**
     * Years, each a sign: 'n' nothing pumped and a wish at the end, 'p' a unit pumped and a wish at the end, 'w' nothing
     * pumped and no wish at the end, 'b' a unit pumped and no wish at the end.
     */
    private static Aquiferward behind(String years, int amount) {
        Aquiferward land = Lands.still();
        land.addWell(2, 0, amount);
        live(land, years);
        return land;
    }

    private static void live(Aquiferward land, String years) {
        for (char year : years.toCharArray()) {
            boolean pumps = year == 'p' || year == 'b';
            land.setCell(2, 0, 10, pumps ? 1 : 0);
            land.setWish(0, 1);
            land.pass(11);
            land.setWish(0, year == 'n' || year == 'p' ? 1 : 0);
            land.pass(1);
        }
    }

    private static int forfeits(Aquiferward land) {
        int count = 0;
        for (int at = 0; at < land.events(); at++) {
            count += land.eventAt(at) == 'f' ? 1 : 0;
        }
        return count;
    }

    private static void isForfeited(String years, boolean want) {
        Aquiferward land = behind(years, 9);
        due.is("amount behind " + years, land.amount(0), want ? 0 : 9);
        due.is("forfeits behind " + years, forfeits(land), want ? 1 : 0);
    }

    /** "In 3 years, one behind the other, at the ends of which its well had a wish above 0". */
    private static void threeYearsInARow() {
        for (String years : new String[] {"", "n", "nn", "nnp", "nnw", "nnb", "nnpnn", "nnwnn", "nnbnn", "npnpn", "nwnwn", "www",
                "wwww", "ppp", "bbb", "wnn", "pnn", "bnn", "nwnn", "npnn", "nnpp", "nnww"}) {
            isForfeited(years, false);
        }
        for (String years : new String[] {"nnn", "wnnn", "pnnn", "bnnn", "nnpnnn", "nnwnnn", "nnbnnn", "nwnnn", "npnnn", "nnnn",
                "nnnnn", "nnnw", "nnnp"}) {
            isForfeited(years, true);
        }
        Aquiferward land = behind("nn", 9);
        land.pass(11);
        due.is("a month ahead of the third end", land.amount(0), 9);
        due.is("no forfeit till then", forfeits(land), 0);
        land.pass(1);
        due.is("at the third end", land.amount(0), 0);
        due.is("a forfeit then", forfeits(land), 1);
    }

    /** "A year at the end of which the wish is 0 breaks the row of years", whatever it was in the months ahead. */
    private static void wishAtTheEndOfTheYear() {
        Aquiferward land = Lands.still();
        land.addWell(2, 0, 9);
        for (int year = 0; year < 3; year++) {
            land.setWish(0, 0);
            land.pass(11);
            due.is("amount in the year " + year, land.amount(0), 9);
            land.setWish(0, 1);
            land.pass(1);
        }
        due.is("wishes in the last months alone", land.amount(0), 0);
        due.is("three calls and a forfeit", land.events(), 4);
    }

    /** "Nothing was pumped": a single unit in the first month, or in the last one, is not nothing. */
    private static void aUnitBreaksTheRow() {
        for (int month = 0; month < 12; month++) {
            Aquiferward land = behind("nn", 9);
            for (int passed = 0; passed < 12; passed++) {
                land.setCell(2, 0, 10, passed == month ? 1 : 0);
                land.pass(1);
            }
            due.is("a unit in the month " + month, land.amount(0), 9);
            due.is("pumped by that", land.pumped(0), 1);
            live(land, "nn");
            due.is("two years behind the unit of the month " + month, land.amount(0), 9);
            live(land, "n");
            due.is("three years behind the unit of the month " + month, land.amount(0), 0);
        }
    }

    /** "Years are counted whatever the amount is: at the end of a year with 3 or more in a row, an amount above 0 is forfeited." */
    private static void rowsOfARightWithoutAnAmount() {
        for (int years = 0; years <= 6; years++) {
            Aquiferward land = Lands.still();
            land.addWell(2, 0, 0);
            land.addWell(7, 0, 500);
            live(land, "nnnnnn".substring(0, years));
            due.is("no forfeit of nothing in " + years, forfeits(land), 0);
            due.is("transfer behind " + years, land.transfer(1, 0, 1), 499);
            land.pass(11);
            due.is("amount in the year behind " + years, land.amount(0), 1);
            land.setWish(0, 1);
            land.pass(1);
            due.is("amount behind the year behind " + years, land.amount(0), years >= 2 ? 0 : 1);
            due.is("forfeits behind " + years, forfeits(land), years >= 2 ? 1 : 0);
        }
        Aquiferward pumping = Lands.still();
        pumping.addWell(2, 0, 0);
        pumping.addWell(7, 0, 500);
        live(pumping, "nnnn");
        pumping.transfer(1, 0, 1);
        live(pumping, "p");
        due.is("an amount that is pumped in time", pumping.amount(0), 1);
        live(pumping, "nn");
        due.is("two years behind that", pumping.amount(0), 1);
        Aquiferward wishless = Lands.still();
        wishless.addWell(2, 0, 0);
        wishless.addWell(7, 0, 500);
        live(wishless, "nnnn");
        wishless.transfer(1, 0, 1);
        live(wishless, "wnn");
        due.is("an amount whose wish broke the row", wishless.amount(0), 1);
    }

    /** "Its amount is 0, and years are counted anew." */
    private static void countedAnew() {
        Aquiferward land = Lands.still();
        land.addWell(2, 0, 9);
        land.addWell(7, 0, 500);
        live(land, "nnn");
        due.is("forfeited first", land.amount(0), 0);
        land.transfer(1, 0, 5);
        live(land, "nn");
        due.is("two years anew", land.amount(0), 5);
        live(land, "n");
        due.is("three years anew", land.amount(0), 0);
        due.is("two forfeits", forfeits(land), 2);
        live(land, "nn");
        land.transfer(1, 0, 5);
        live(land, "n");
        due.is("the third year anew, with an amount that came in it", land.amount(0), 0);
        due.is("three forfeits", forfeits(land), 3);
    }

    private static void anyAmountIsForfeited() {
        for (int amount : new int[] {1, 2, 998, 999}) {
            Aquiferward land = behind("nn", amount);
            due.is("amount ahead of the end", land.amount(0), amount);
            live(land, "n");
            due.is("amount of " + amount, land.amount(0), 0);
            due.is("forfeits of " + amount, forfeits(land), 1);
        }
        due.is("an amount of 0 is not forfeited", forfeits(behind("nnnn", 0)), 0);
    }

    /** All 6 at once, but those without a wish or an amount. */
    private static void severalAreForfeitedAtOnce() {
        Aquiferward land = Lands.still();
        for (int well = 0; well < 6; well++) {
            land.addWell(well, 10 - well, well == 4 ? 0 : 999);
            land.setWish(well, well == 2 ? 0 : 99);
        }
        land.pass(24);
        land.pass(11);
        int events = land.events();
        land.pass(1);
        due.is("amounts", land.amount(0) + land.amount(1) + land.amount(3) + land.amount(4) + land.amount(5), 0);
        due.is("the one without a wish", land.amount(2), 999);
        due.is("forfeits", forfeits(land), 4);
        due.is("the events are kept", land.events() > events + 4, true);
    }

    /** A forfeited right keeps its age and its wish, and gets an amount by a transfer alone. */
    private static void aForfeitedRightIsStillThere() {
        Aquiferward land = behind("nnn", 9);
        int events = land.events();
        land.setCell(2, 0, 10, 0);
        land.pass(12);
        due.is("it does not call", land.events(), events);
        land.setCell(2, 0, 10, 90);
        land.pass(12);
        due.is("it does not pump", land.pumped(0), 0);
        due.is("it has its wish", land.setWish(0, 1), 1);
        due.is("it has its age", land.byAge(0), 0);
        due.unsupported("it has nothing to give", () -> land.transfer(0, 0, 1));
        due.is("a well beside it", land.addWell(2, 5, 20), 1);
        due.unsupported("nothing to give to it", () -> land.transfer(0, 1, 1));
        due.is("transfer to it", land.transfer(1, 0, 9), 11);
        land.pass(1);
        due.is("it pumps again", land.pumped(0), 1);
    }

    /** "In this order": each step as seen by the next one, where one unit more or less makes the difference. */
    private static void ordersOfAMonth() {
        Aquiferward rain = Lands.still();
        rain.setRain(1, 7);
        rain.addWell(1, 0, 99);
        rain.setWish(0, 7);
        rain.pass(1);
        due.is("rain ahead of wells", rain.events(), 0);

        Aquiferward wells = new Aquiferward();
        wells.setCell(0, 0, 1, 8);
        wells.addWell(0, 0, 99);
        wells.setWish(0, 8);
        wells.pass(1);
        due.is("wells ahead of flows", wells.water(1), 0);
        due.is("wells get it all", wells.pumped(0), 8);

        Aquiferward flows = new Aquiferward();
        flows.setCell(1, 0, 1, 8);
        flows.setCell(0, 0, 1, 0);
        flows.setBed(0, 7, 4);
        flows.setRiver(9);
        flows.pass(1);
        due.is("flows ahead of the river: into the ground", flows.account('i'), 0);
        due.is("flows ahead of the river: out of it", flows.account('o'), 1);

        Aquiferward river = Lands.still();
        river.setBed(3, 8, 4);
        river.setRiver(9);
        river.setGround(3, 0);
        river.setCell(3, 0, 1, 0);
        river.pass(1);
        due.is("the river ahead of springs", river.account('s'), 8);

        Aquiferward springs = Lands.still();
        springs.setGround(0, 3);
        springs.setCell(0, 0, 1, 9);
        springs.setSea(4);
        springs.pass(1);
        due.is("springs ahead of the sea", springs.account('m'), 3);

        Aquiferward shore = Lands.still();
        shore.setBed(0, 8, 4);
        shore.setRiver(8);
        shore.setCell(0, 0, 1, 0);
        shore.setSea(4);
        shore.pass(1);
        due.is("the river ahead of the sea", shore.account('m'), 8);
    }

    /** Calls, then dry beds, and behind the month 36 the forfeit. */
    private static void eventsOfTheLastMonthOfARow() {
        Aquiferward land = Lands.still();
        land.setBed(5, 50, 1);
        land.addWell(2, 0, 9);
        land.setWish(0, 1);
        land.pass(24);
        land.pass(12);
        due.is("events", land.events(), 73);
        for (int at = 0; at < 72; at++) {
            due.is("event " + at, land.eventAt(at), at % 2 == 0 ? 'c' : 'd');
        }
        due.is("event 72", land.eventAt(72), 'f');
        land.pass(1);
        due.is("events of the month 37", land.events(), 74);
        due.is("event 73", land.eventAt(73), 'd');
    }

    /** "All events are kept in a row", from 0; there is none at their number. */
    private static void eventsAreKeptInARow() {
        Aquiferward land = Lands.still();
        for (int count = 0; count <= 20; count++) {
            int events = count;
            due.is("events behind " + count, land.events(), count);
            due.outOfBounds("eventAt(-1) of " + count, () -> land.eventAt(-1));
            due.outOfBounds("eventAt(" + count + ") of " + count, () -> land.eventAt(events));
            if (count > 0) {
                due.is("the first of " + count, land.eventAt(0), 'd');
                due.is("the last of " + count, land.eventAt(count - 1), 'd');
            }
            land.setBed(7, 1, 4);
            land.setCell(7, 0, 10, 0);
            land.pass(1);
        }
        due.outOfBounds("eventAt(MAX)", () -> land.eventAt(Integer.MAX_VALUE));
        due.outOfBounds("eventAt(MIN)", () -> land.eventAt(Integer.MIN_VALUE));
    }
}
