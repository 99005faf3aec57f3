/** Promises 13 to 16 and 23 to 25: months pass, and what is asked of cells, events and accounts. */
public final class MonthTest {
    private static final Due due = new Due("MonthTest");

    public static void main(String[] args) {
        months();
        asksWrongly();
        rain();
        flows();
        flowsAreCutTowardsNought();
        flowsLeak();
        flowsShareWhatThereIs();
        flowsGoByTheLevelsBehindPumping();
        salt();
        saltGoesWithFlowsInOrder();
        riverFeeds();
        riverDrinks();
        riverFallsDry();
        springs();
        sea();
        orderOfTheMonth();
        accounts();
        due.end();
    }

    private static void months() {
        Aquiferward land = new Aquiferward();
        due.illegal("pass(0)", () -> land.pass(0));
        due.illegal("pass(-1)", () -> land.pass(-1));
        due.illegal("pass(MIN)", () -> land.pass(Integer.MIN_VALUE));
        due.illegal("pass(25)", () -> land.pass(25));
        due.illegal("pass(MAX)", () -> land.pass(Integer.MAX_VALUE));
        due.is("pass(1)", land.pass(1), 1);
        due.is("pass(13)", land.pass(13), 14);
        for (int month = 38; month <= 566; month += 24) {
            due.is("pass(24)", land.pass(24), month);
        }
        land.setRain(0, 5);
        due.is("pass to 590", land.pass(24), 590);
        long before = land.account('r');
        due.refused("pass(11) at 590", ArithmeticException.class, () -> land.pass(11));
        due.is("a refused pass lets no month pass", land.account('r'), before);
        due.is("pass(10) at 590", land.pass(10), 600);
        due.refused("pass(1) at 600", ArithmeticException.class, () -> land.pass(1));
        due.illegal("pass(25) at 600", () -> land.pass(25));
        due.illegal("pass(0) at 600", () -> land.pass(0));
    }

    private static void asksWrongly() {
        Aquiferward land = new Aquiferward();
        for (int cell : new int[] {-1, 16, Integer.MIN_VALUE, Integer.MAX_VALUE}) {
            due.outOfBounds("level(" + cell + ")", () -> land.level(cell));
            due.outOfBounds("water(" + cell + ")", () -> land.water(cell));
            due.outOfBounds("salt(" + cell + ")", () -> land.salt(cell));
            due.outOfBounds("eventAt(" + cell + ")", () -> land.eventAt(cell));
        }
        due.outOfBounds("eventAt(0) without events", () -> land.eventAt(0));
        for (int first = 0; first < 0x10000; first += 512) {
            asksForAccounts(first);
        }
    }

    private static void asksForAccounts(int first) {
        Aquiferward land = new Aquiferward();
        for (int what = first; what < first + 512; what++) {
            char asked = (char) what;
            if ("wrpiosnml".indexOf(asked) < 0) {
                due.illegal("account of char " + what, () -> land.account(asked));
            }
        }
    }

    private static void rain() {
        Aquiferward land = Lands.still();
        land.setRain(0, 99);
        land.setRain(7, 1);
        land.pass(1);
        due.is("water of the rainy cell", land.water(0), 99);
        due.is("water of the less rainy cell", land.water(7), 1);
        due.is("no rain below", land.water(8) + land.water(15), 0);
        land.setRain(0, 0);
        land.pass(2);
        due.is("rain that is over", land.water(0), 99);
        due.is("rain that goes on", land.water(7), 3);
        due.is("account r", land.account('r'), 102);
    }

    private static void flows() {
        Aquiferward land = new Aquiferward();
        land.setCell(12, 0, 10, 400);
        land.setCell(13, 0, 10, 100);
        land.pass(1);
        due.is("lower cell between", land.water(12), 330);
        due.is("lower cell at its left", land.water(11), 40);
        due.is("lower cell at its right", land.water(13), 120);
        due.is("lower cell further right", land.water(14), 10);
        due.is("the upper layer stays", land.water(4), 0);
        Aquiferward inner = new Aquiferward();
        inner.setConductance(0, 9);
        inner.setCell(1, 0, 10, 100);
        inner.setCell(6, 0, 10, 100);
        inner.pass(1);
        due.is("from the column 1 to the column 0", inner.water(0), 22);
        due.is("from the column 1 to the column 2", inner.water(2), 22);
        due.is("from the column 6 to the column 7", inner.water(7), 22);
        due.is("from the column 6 to the column 5", inner.water(5), 22);
        Aquiferward edge = new Aquiferward();
        edge.setConductance(0, 9);
        edge.setCell(7, 0, 10, 100);
        edge.setCell(8, 0, 10, 100);
        edge.setConductance(1, 1);
        edge.pass(1);
        due.is("the last upper cell", edge.water(7), 78);
        due.is("its only neighbour", edge.water(6), 22);
        due.is("the first lower cell", edge.water(8), 98);
        due.is("its only neighbour", edge.water(9), 2);
    }

    private static void flowsAreCutTowardsNought() {
        Aquiferward land = new Aquiferward();
        land.setConductance(0, 1);
        land.setCell(4, 0, 10, 70);
        land.pass(1);
        due.is("the cell at the left", land.water(3), 1);
        due.is("the cell itself", land.water(4), 68);
        due.is("the cell at the right", land.water(5), 1);
        Aquiferward low = new Aquiferward();
        low.setConductance(0, 1);
        low.setCell(4, 0, 10, 30);
        low.pass(1);
        due.is("less than a whole unit does not go", low.water(4), 30);
    }

    private static void flowsLeak() {
        Aquiferward land = Lands.still();
        land.setLeakage(0, 2);
        land.setLeakage(7, 9);
        land.setCell(0, 0, 10, 100);
        land.setCell(15, 0, 10, 50);
        land.setCell(1, 0, 10, 100);
        land.pass(1);
        due.is("the upper cell that leaks", land.water(0), 95);
        due.is("the lower cell below it", land.water(8), 5);
        due.is("the lower cell that is higher", land.water(15), 39);
        due.is("the upper cell above it", land.water(7), 11);
        due.is("a column without leakage", land.water(1), 100);
    }

    private static void flowsShareWhatThereIs() {
        Aquiferward land = new Aquiferward();
        land.setConductance(0, 9);
        land.setConductance(1, 0);
        land.setLeakage(4, 9);
        land.setCell(4, 50, 50, 9);
        land.setCell(3, 49, 50, 0);
        land.setCell(2, 49, 50, 0);
        land.setCell(5, 48, 50, 0);
        land.setCell(6, 48, 50, 0);
        land.pass(1);
        due.is("first the lower number", land.water(3), 2);
        due.is("then the higher number", land.water(5), 4);
        due.is("then the other layer, what is left", land.water(12), 3);
        due.is("nothing is left", land.water(4), 0);

        Aquiferward less = new Aquiferward();
        less.setConductance(0, 9);
        less.setCell(4, 50, 50, 3);
        less.setCell(3, 49, 50, 0);
        less.pass(1);
        due.is("what comes in stays till the flows are over", less.water(3), 2);
        due.is("the rest goes to the other side", less.water(5), 1);
        due.is("nothing goes on in the same month", less.water(2), 0);
    }

    private static void flowsGoByTheLevelsBehindPumping() {
        Aquiferward land = new Aquiferward();
        land.setCell(3, 0, 10, 400);
        land.addWell(3, 0, 999);
        land.setWish(0, 99);
        land.pass(1);
        due.is("the pumped cell", land.water(3), 241);
        due.is("what flowed out of it", land.water(2), 30);
    }

    /** Cell 0 gets 10 units of sea water, and the sea is still again. */
    private static Aquiferward saltyLand() {
        Aquiferward land = Lands.still();
        land.setCell(0, -10, 50, 0);
        land.setSea(4);
        land.pass(1);
        land.setSea(0);
        due.is("sea water", land.water(0), 10);
        due.is("sea salt", land.salt(0), 350);
        return land;
    }

    private static void salt() {
        Aquiferward land = saltyLand();
        land.setRain(0, 1);
        land.addWell(0, 0, 999);
        land.setWish(0, 3);
        land.pass(1);
        due.is("salt left by a well", land.salt(0), 255);
        due.is("water left by a well", land.water(0), 8);
        land.pass(1);
        due.is("salt left by a well again", land.salt(0), 170);
        land.pass(1);
        due.is("salt is rounded down as it goes", land.salt(0), 98);
        land.setWish(0, 99);
        land.pass(1);
        due.is("all salt goes with all water", land.salt(0), 0);
        due.is("no salt comes elsewhere", land.salt(1) + land.salt(8), 0);

        Aquiferward river = saltyLand();
        river.setBed(0, -11, 8);
        river.pass(1);
        due.is("salt that the river took", river.salt(0), 280);
        river.setRiver(4);
        river.setBed(0, -9, 9);
        river.pass(1);
        due.is("water that the river brought", river.water(0), 10);
        due.is("a river brings no salt", river.salt(0), 280);

        Aquiferward spring = saltyLand();
        spring.setGround(0, -20);
        spring.pass(1);
        due.is("salt that a spring took", spring.salt(0), 0);
    }

    private static void saltGoesWithFlowsInOrder() {
        Aquiferward land = Lands.still();
        land.setCell(0, -5, 50, 0);
        land.setSea(4);
        land.pass(1);
        land.setSea(0);
        due.is("sea salt", land.salt(0), 175);
        land.setRain(0, 3);
        land.setCell(1, -7, 50, 0);
        land.setCell(8, -8, 50, 0);
        land.setConductance(0, 4);
        land.setLeakage(0, 4);
        land.pass(1);
        due.is("water that flowed to the next column", land.water(1), 2);
        due.is("salt that flowed to the next column", land.salt(1), 43);
        due.is("water that leaked", land.water(8), 3);
        due.is("salt that leaked behind it", land.salt(8), 66);
        due.is("salt that stayed", land.salt(0), 66);
        land.setConductance(0, 0);
        land.setLeakage(0, 0);
        land.pass(1);
        due.is("salt that flowed comes once", land.salt(1), 43);
        due.is("salt that leaked comes once", land.salt(8), 66);
    }

    private static void riverFeeds() {
        Aquiferward land = Lands.still();
        land.setRiver(50);
        land.setBed(6, 10, 4);
        land.setBed(4, 5, 3);
        land.setBed(2, 1, 3);
        land.pass(1);
        due.is("fed at the column 6", land.water(6), 10);
        due.is("fed at the column 4, cut towards 0", land.water(4), 3);
        due.is("not fed at the column 2", land.water(2), 0);
        due.is("account i", land.account('i'), 13);
        due.is("account l", land.account('l'), 37);
        due.is("account o", land.account('o'), 0);
        due.is("no event", land.events(), 0);
        land.setBed(6, 10, 0);
        land.pass(1);
        due.is("a bed that was taken away", land.water(6), 10);
        due.is("account l in the next month", land.account('l'), 84);
    }

    private static void riverDrinks() {
        Aquiferward land = Lands.still();
        land.setCell(6, 10, 10, 8);
        land.setCell(3, 0, 10, 79);
        land.setBed(6, 0, 9);
        land.setBed(4, 5, 4);
        land.setBed(3, 0, 3);
        land.setBed(7, 5, 0);
        land.pass(1);
        due.is("the cell gives all that it has", land.water(6), 0);
        due.is("the river brings it further down", land.water(4), 5);
        due.is("drunk at the column 3, cut towards 0", land.water(3), 74);
        due.is("account o", land.account('o'), 13);
        due.is("account i", land.account('i'), 5);
        due.is("account l", land.account('l'), 8);
        due.is("no event", land.events(), 0);
    }

    private static void riverFallsDry() {
        Aquiferward land = Lands.still();
        land.setRiver(10);
        land.setBed(7, 10, 4);
        land.setBed(6, 0, 9);
        land.setBed(5, 1, 4);
        land.setBed(4, 1, 3);
        land.setCell(3, 20, 50, 4);
        land.setBed(3, 0, 9);
        land.setBed(2, 1, 4);
        land.pass(1);
        due.is("fed with just as much as there is", land.water(7), 10);
        due.is("fed with nothing", land.water(5), 0);
        due.is("fed by water that came behind", land.water(2), 1);
        due.is("two columns with nothing left", land.events(), 2);
        due.is("event 0", land.eventAt(0), 'd');
        due.is("event 1", land.eventAt(1), 'd');
        due.is("account l", land.account('l'), 3);
        due.outOfBounds("eventAt(2) of 2", () -> land.eventAt(2));
        Aquiferward none = Lands.still();
        none.setBed(5, 0, 9);
        none.pass(1);
        due.is("a river without water from which nothing would go", none.events(), 0);
    }

    private static void springs() {
        Aquiferward land = Lands.still();
        land.setGround(2, 5);
        land.setCell(2, 0, 10, 59);
        land.setCell(10, 0, 10, 90);
        land.pass(1);
        due.is("no spring at the ground's level", land.water(2), 59);
        land.setCell(2, 0, 10, 60);
        land.pass(1);
        due.is("a spring above the ground", land.water(2), 50);
        due.is("account s", land.account('s'), 10);
        due.is("no spring below", land.water(10), 90);
        land.setGround(3, -5);
        land.setCell(3, 0, 10, 9);
        land.pass(1);
        due.is("a ground below the base", land.water(3), 0);
        due.is("account s behind that", land.account('s'), 19);
        land.setCell(4, 100, 1, 3);
        land.setCell(5, 99, 1, 1);
        land.setCell(6, 98, 50, 149);
        land.setCell(7, 98, 50, 150);
        land.pass(1);
        due.is("a ground of 100 at first", land.water(4), 0);
        due.is("at a ground of 100", land.water(5), 1);
        due.is("filled to a ground of 100", land.water(6), 149);
        due.is("filled above a ground of 100", land.water(7), 100);
        Aquiferward empty = Lands.still();
        empty.setGround(0, -100);
        empty.pass(1);
        due.is("a spring of an empty cell", empty.account('s'), 0);
        due.is("its water", empty.water(0), 0);
    }

    private static void sea() {
        Aquiferward land = Lands.still();
        land.setSea(1);
        land.setCell(0, -7, 50, 0);
        land.setCell(8, -3, 50, 0);
        land.pass(1);
        due.is("in from the sea, cut towards 0", land.water(0), 1);
        due.is("salt of the sea", land.salt(0), 35);
        due.is("less than a whole unit does not come", land.water(8), 0);
        due.is("account n", land.account('n'), 1);
        land.setCell(0, 3, 50, 10);
        land.setCell(8, 7, 50, 10);
        land.setCell(1, -50, 1, 0);
        land.pass(1);
        due.is("less than a whole unit does not go", land.water(0), 10);
        due.is("out to the sea, cut towards 0", land.water(8), 9);
        due.is("the column 1 does not meet the sea", land.water(1), 0);
        due.is("account m", land.account('m'), 1);
        land.setCell(8, 100, 50, 10);
        land.pass(1);
        due.is("out to the sea, at most what there is", land.water(8), 0);
        due.is("account m behind that", land.account('m'), 11);
        Aquiferward salty = saltyLand();
        salty.setSea(4);
        salty.pass(1);
        due.is("salt comes to salt", salty.salt(0), 700);
        Aquiferward out = Lands.still();
        out.setCell(0, -1, 1, 0);
        out.setSea(4);
        out.pass(1);
        due.is("one unit from the sea", out.salt(0), 35);
        out.setRain(0, 4);
        out.pass(1);
        due.is("water behind what goes out to the sea", out.water(0), 1);
        due.is("salt behind what goes out to the sea", out.salt(0), 7);
    }

    private static void orderOfTheMonth() {
        Aquiferward land = Lands.still();
        land.setRain(0, 20);
        land.addWell(0, 0, 999);
        land.setWish(0, 20);
        land.pass(1);
        due.is("rain comes ahead of the wells", land.pumped(0), 20);

        Aquiferward river = Lands.still();
        river.setRiver(999);
        river.setBed(4, 100, 9);
        river.setGround(4, 2);
        river.addWell(4, 0, 999);
        river.setWish(0, 1);
        river.pass(1);
        due.is("wells pump ahead of the river", river.pumped(0), 0);
        due.is("the river goes ahead of springs", river.water(4), 20);

        Aquiferward shore = Lands.still();
        shore.setGround(0, 5);
        shore.setCell(0, 0, 10, 90);
        shore.setSea(4);
        shore.pass(1);
        due.is("springs go ahead of the sea", shore.account('m'), 5);
        due.is("what a spring and the sea left", shore.water(0), 45);

        Aquiferward flow = new Aquiferward();
        flow.setCell(4, 0, 10, 100);
        flow.setBed(4, 0, 4);
        flow.pass(1);
        due.is("water flows ahead of the river", flow.account('o'), 8);
    }

    private static void accounts() {
        Aquiferward land = Lands.still();
        land.setRain(1, 10);
        land.setRiver(30);
        land.setBed(7, 5, 4);
        land.setCell(6, 5, 10, 9);
        land.setBed(6, 0, 4);
        land.setCell(5, 0, 10, 99);
        land.setGround(5, 3);
        land.setSea(4);
        land.setCell(0, -3, 10, 0);
        land.setCell(8, 3, 10, 9);
        land.addWell(1, 0, 99);
        land.setWish(0, 4);
        land.pass(1);
        long[] want = {117, 10, 4, 5, 5, 69, 3, 3, 30};
        String names = "wrpiosnml";
        for (int at = 0; at < want.length; at++) {
            due.is("account " + names.charAt(at), land.account(names.charAt(at)), want[at]);
        }
        due.is("sound", land.isSound(), true);
    }
}
