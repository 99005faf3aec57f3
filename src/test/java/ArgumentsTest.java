import java.util.NoSuchElementException;

/** Each bound of an argument: the last number that is allowed and the first one that is not, on both sides. */
public final class ArgumentsTest {
    private static final Due due = new Due("ArgumentsTest");
    private static final int[] FAR = {Integer.MIN_VALUE, Integer.MIN_VALUE + 1, Integer.MAX_VALUE - 1, Integer.MAX_VALUE};

    /** A call of a land in which one argument is asked for. */
    private interface Call {
        Object with(Aquiferward land, int argument);
    }

    public static void main(String[] args) {
        cellsColumnsAndLayers();
        wells();
        eitherWell();
        ages();
        settings();
        settingsOfEachPlace();
        basesOfCells();
        storagesOfCells();
        watersOfCells();
        stagesOfBeds();
        yearsOfRights();
        amountsOfRights();
        amountsOfTransfers();
        months();
        accounts();
        due.end();
    }

    private static Aquiferward withWells(int wells) {
        Aquiferward land = new Aquiferward();
        for (int well = 0; well < wells; well++) {
            land.addWell(15 - well, 10 * well, 100 + well);
        }
        return land;
    }

    /** "the cell, 0 to 15", "the column, 0 to 7", "0 the upper one, 1 the lower one". */
    private static void cellsColumnsAndLayers() {
        indices("setCell of the cell", 16, new Aquiferward(), (land, cell) -> land.setCell(cell, 0, 10, 0));
        indices("addWell in the cell", 16, null, (land, cell) -> new Aquiferward().addWell(cell, 0, 0));
        indices("level of the cell", 16, new Aquiferward(), Aquiferward::level);
        indices("water of the cell", 16, new Aquiferward(), Aquiferward::water);
        indices("salt of the cell", 16, new Aquiferward(), Aquiferward::salt);
        indices("setGround of the column", 8, new Aquiferward(), (land, column) -> land.setGround(column, 0));
        indices("setLeakage of the column", 8, new Aquiferward(), (land, column) -> land.setLeakage(column, 0));
        indices("setRain of the column", 8, new Aquiferward(), (land, column) -> land.setRain(column, 0));
        indices("setBed of the column", 8, new Aquiferward(), (land, column) -> land.setBed(column, 0, 0));
        indices("setConductance of the layer", 2, new Aquiferward(), (land, layer) -> land.setConductance(layer, 0));
    }

    /** "if there is no such well", "for either": with no well, with some, and with all 6. */
    private static void wells() {
        for (int count = 0; count <= 6; count++) {
            Aquiferward land = withWells(count);
            String of = " of " + count + " wells, the well";
            indices("setWish" + of, count, land, (l, well) -> l.setWish(well, 0));
            indices("amount" + of, count, land, Aquiferward::amount);
            indices("yearly" + of, count, land, Aquiferward::yearly);
            indices("pumped" + of, count, land, Aquiferward::pumped);
            indices("isShut" + of, count, land, Aquiferward::isShut);
        }
    }

    /** "if there is no such well, for either". */
    private static void eitherWell() {
        for (int count = 0; count <= 6; count++) {
            Aquiferward land = withWells(count);
            for (int well = 0; well < count && count > 1; well++) {
                int one = well;
                int next = (well + 1) % count;
                due.allowed("transfer from " + one + " to " + next, () -> land.transfer(one, next, 1));
                due.allowed("pumpedWithout(" + one + ", " + next + ")", () -> land.pumpedWithout(one, next));
            }
            for (int none : new int[] {-1, count, Integer.MIN_VALUE, Integer.MAX_VALUE}) {
                due.outOfBounds("transfer from " + none + " of " + count, () -> land.transfer(none, 0, 1));
                due.outOfBounds("transfer to " + none + " of " + count, () -> land.transfer(0, none, 1));
                due.outOfBounds("pumpedWithout(" + none + ", 0) of " + count, () -> land.pumpedWithout(none, 0));
                due.outOfBounds("pumpedWithout(0, " + none + ") of " + count, () -> land.pumpedWithout(0, none));
            }
        }
    }

    /** "the index, from 0 for the oldest one", "NoSuchElementException if there is no such index". */
    private static void ages() {
        for (int count = 0; count <= 6; count++) {
            Aquiferward land = withWells(count);
            for (int index = 0; index < count; index++) {
                due.is("byAge(" + index + ") of " + count, land.byAge(index), index);
            }
            for (int index : new int[] {-1, count, Integer.MIN_VALUE, Integer.MAX_VALUE}) {
                due.refused("byAge(" + index + ") of " + count, NoSuchElementException.class, () -> land.byAge(index));
            }
        }
    }

    /** From 0 to the last one the call answers, and next to these on both sides, and far away, there is no such one. */
    private static void indices(String call, int count, Aquiferward land, Call made) {
        for (int index = 0; index < count; index++) {
            int allowed = index;
            due.allowed(call + " " + index, () -> made.with(land, allowed));
        }
        due.outOfBounds(call + " -1", () -> made.with(land, -1));
        due.outOfBounds(call + " " + count, () -> made.with(land, count));
        for (int index : FAR) {
            due.outOfBounds(call + " " + index, () -> made.with(land, index));
        }
    }

    /** "the ground, -100 to 200", "the conductance, 0 to 9" and their like, with what each one is at first. */
    private static void settings() {
        for (int place = 0; place < 8; place++) {
            int column = place;
            setting("setGround of " + column, -100, 200, 100, (land, ground) -> land.setGround(column, ground));
            setting("setLeakage of " + column, 0, 9, 0, (land, leakage) -> land.setLeakage(column, leakage));
            setting("setRain of " + column, 0, 99, 0, (land, rain) -> land.setRain(column, rain));
            setting("setBed's strength of " + column, 0, 9, 0, (land, strength) -> land.setBed(column, 0, strength));
        }
        setting("setConductance of 0", 0, 9, 4, (land, conductance) -> land.setConductance(0, conductance));
        setting("setConductance of 1", 0, 9, 4, (land, conductance) -> land.setConductance(1, conductance));
        setting("setRiver", 0, 999, 0, Aquiferward::setRiver);
        setting("setSea", 0, 9, 0, Aquiferward::setSea);
        for (int place = 0; place < 6; place++) {
            int well = place;
            setting("setWish of " + well, 0, 99, 0, (land, wish) -> land.setWish(well, wish));
        }
    }

    private static void setting(String call, int least, int most, int first, Call set) {
        Aquiferward land = withWells(6);
        due.is(call + " to the least", set.with(land, least), first);
        refusesNumber(call, land, least - 1, set);
        due.is(call + " to the most", set.with(land, most), least);
        refusesNumber(call, land, most + 1, set);
        for (int number : FAR) {
            refusesNumber(call, land, number, set);
        }
        due.is(call + " to one less than the most", set.with(land, most - 1), most);
        due.is(call + " to one more than the least", set.with(land, least + 1), most - 1);
        due.is(call + " behind that", set.with(land, least), least + 1);
    }

    private static void refusesNumber(String call, Aquiferward land, int number, Call set) {
        due.illegal(call + " to " + number, () -> set.with(land, number));
    }

    /** What is set at one place is the one before at this place alone. */
    private static void settingsOfEachPlace() {
        Aquiferward land = withWells(6);
        Call[] sets = new Call[8 * 4 + 2];
        int count = 0;
        for (int place = 0; place < 8; place++) {
            int column = place;
            sets[count++] = (l, number) -> l.setGround(column, number);
            sets[count++] = (l, number) -> l.setRain(column, number);
            sets[count++] = (l, number) -> l.setLeakage(column, number % 10);
            sets[count++] = (l, number) -> l.setBed(column, 0, number % 10);
        }
        sets[count++] = Aquiferward::setRiver;
        sets[count++] = (l, number) -> l.setSea(number % 10);
        for (int at = 0; at < count; at++) {
            sets[at].with(land, 10 + at);
        }
        for (int at = 0; at < count; at++) {
            boolean small = at < 32 ? at % 4 > 1 : at == 33;
            due.is("setting " + at, sets[at].with(land, 0), small ? at % 10 : 10 + at);
        }
        for (int well = 0; well < 6; well++) {
            land.setWish(well, 20 + well);
        }
        for (int well = 0; well < 6; well++) {
            due.is("wish of " + well, land.setWish(well, 0), 20 + well);
        }
    }

    /** "the base, -100 to 100". */
    private static void basesOfCells() {
        Aquiferward land = new Aquiferward();
        for (int cell = 0; cell < 16; cell++) {
            int of = cell;
            for (int base : new int[] {-100, -99, 99, 100}) {
                land.setCell(cell, base, 10, 9);
                due.is("level of " + cell + " with the base " + base, land.level(cell), base);
            }
            due.illegal("setCell of " + cell + ", base -101", () -> land.setCell(of, -101, 10, 0));
            due.illegal("setCell of " + cell + ", base 101", () -> land.setCell(of, 101, 10, 0));
            due.is("level of " + cell + " behind that", land.level(cell), 100);
        }
        for (int base : FAR) {
            due.illegal("setCell, base " + base, () -> land.setCell(0, base, 10, 0));
        }
    }

    /** "the storage, 1 to 50". */
    private static void storagesOfCells() {
        Aquiferward land = new Aquiferward();
        for (int cell = 0; cell < 16; cell++) {
            int of = cell;
            for (int storage : new int[] {1, 2, 49, 50}) {
                land.setCell(cell, 0, storage, 4900);
                due.is("level of " + cell + " with the storage " + storage, land.level(cell), 4900 / storage);
            }
            due.illegal("setCell of " + cell + ", storage 0", () -> land.setCell(of, 0, 0, 0));
            due.illegal("setCell of " + cell + ", storage 51", () -> land.setCell(of, 0, 51, 0));
            due.is("level of " + cell + " behind that", land.level(cell), 98);
        }
        for (int storage : FAR) {
            due.illegal("setCell, storage " + storage, () -> land.setCell(0, 0, storage, 0));
        }
        due.illegal("setCell, storage -1", () -> land.setCell(0, 0, -1, 0));
    }

    /** "the water, 0 to 5000". */
    private static void watersOfCells() {
        Aquiferward land = new Aquiferward();
        for (int cell = 0; cell < 16; cell++) {
            int of = cell;
            due.is("setCell of " + cell + " that is empty", land.setCell(cell, 0, 10, 5000), 0);
            due.illegal("setCell of " + cell + ", water 5001", () -> land.setCell(of, 0, 10, 5001));
            due.is("setCell of " + cell + " to nothing", land.setCell(cell, 0, 10, 0), 5000);
            due.illegal("setCell of " + cell + ", water -1", () -> land.setCell(of, 0, 10, -1));
            due.is("setCell of " + cell + " behind that", land.setCell(cell, 0, 10, 1), 0);
            due.is("water of " + cell, land.water(cell), 1);
        }
        for (int water : FAR) {
            due.illegal("setCell, water " + water, () -> land.setCell(0, 0, 10, water));
        }
        due.is("account w", land.account('w'), 16);
    }

    /** "the stage, -100 to 100": told by what the river gives and takes. */
    private static void stagesOfBeds() {
        for (int place = 0; place < 8; place++) {
            int column = place;
            Aquiferward land = Lands.still();
            land.setRiver(999);
            land.setCell(column, -100, 50, 49);
            due.allowed("setBed of " + column + ", stage -100", () -> land.setBed(column, -100, 4));
            land.pass(1);
            due.is("stage -100 at the level -100 of " + column, land.water(column), 49);
            due.allowed("setBed of " + column + ", stage -99", () -> land.setBed(column, -99, 4));
            land.pass(1);
            due.is("stage -99 at the level -100 of " + column, land.water(column), 50);
            land.setCell(column, 99, 50, 0);
            due.allowed("setBed of " + column + ", stage 100", () -> land.setBed(column, 100, 4));
            due.illegal("setBed of " + column + ", stage 101", () -> land.setBed(column, 101, 4));
            due.illegal("setBed of " + column + ", stage -101", () -> land.setBed(column, -101, 4));
            land.pass(1);
            due.is("stage 100 at the level 99 of " + column, land.water(column), 1);
            for (int stage : FAR) {
                due.illegal("setBed of " + column + ", stage " + stage, () -> land.setBed(column, stage, 0));
            }
        }
    }

    /** "the year of its right, 0 to 9999": told by the age. */
    private static void yearsOfRights() {
        Aquiferward land = new Aquiferward();
        land.addWell(0, 9999, 0);
        land.addWell(0, 9998, 0);
        land.addWell(0, 1, 0);
        land.addWell(0, 0, 0);
        for (int year : new int[] {-1, 10000, Integer.MIN_VALUE, Integer.MAX_VALUE}) {
            due.illegal("addWell, year " + year, () -> land.addWell(0, year, 0));
        }
        for (int index = 0; index < 4; index++) {
            due.is("byAge(" + index + ")", land.byAge(index), 3 - index);
        }
        due.refused("byAge(4)", NoSuchElementException.class, () -> land.byAge(4));
    }

    /** "the amount, 0 to 999". */
    private static void amountsOfRights() {
        Aquiferward land = new Aquiferward();
        int[] amounts = {0, 1, 998, 999};
        for (int well = 0; well < amounts.length; well++) {
            due.is("addWell, amount " + amounts[well], land.addWell(0, 0, amounts[well]), well);
            due.is("amount of " + well, land.amount(well), amounts[well]);
        }
        for (int amount : new int[] {-1, 1000, Integer.MIN_VALUE, Integer.MAX_VALUE}) {
            due.illegal("addWell, amount " + amount, () -> land.addWell(0, 0, amount));
        }
        due.outOfBounds("no well came by that", () -> land.amount(4));
    }

    /** "how much, 1 to 999". */
    private static void amountsOfTransfers() {
        Aquiferward land = new Aquiferward();
        land.addWell(0, 0, 999);
        land.addWell(0, 0, 0);
        due.is("transfer of 999", land.transfer(0, 1, 999), 0);
        due.is("transfer of 1", land.transfer(1, 0, 1), 998);
        due.is("transfer of 998", land.transfer(1, 0, 998), 0);
        for (int amount : new int[] {0, -1, 1000, Integer.MIN_VALUE, Integer.MAX_VALUE}) {
            due.illegal("transfer of " + amount, () -> land.transfer(0, 1, amount));
        }
        due.is("amount of the first", land.amount(0), 999);
        due.is("amount of the second", land.amount(1), 0);
    }

    /** "how many, 1 to 24", "if the month would be greater than 600". */
    private static void months() {
        Aquiferward land = new Aquiferward();
        for (int months : new int[] {0, -1, 25, Integer.MIN_VALUE, Integer.MAX_VALUE}) {
            due.illegal("pass(" + months + ") at 0", () -> land.pass(months));
        }
        due.is("pass(1)", land.pass(1), 1);
        due.is("pass(2)", land.pass(2), 3);
        due.is("pass(23)", land.pass(23), 26);
        due.is("pass(24)", land.pass(24), 50);
        Lands.pass(land, 527);
        due.refused("pass(24) at 577", ArithmeticException.class, () -> land.pass(24));
        due.is("pass(22) at 577", land.pass(22), 599);
        due.refused("pass(2) at 599", ArithmeticException.class, () -> land.pass(2));
        due.refused("pass(24) at 599", ArithmeticException.class, () -> land.pass(24));
        due.is("pass(1) at 599", land.pass(1), 600);
        due.refused("pass(1) at 600", ArithmeticException.class, () -> land.pass(1));
        due.refused("pass(24) at 600", ArithmeticException.class, () -> land.pass(24));
        for (int months : new int[] {0, -1, 25, Integer.MIN_VALUE, Integer.MAX_VALUE}) {
            due.illegal("pass(" + months + ") at 600", () -> land.pass(months));
        }
        Aquiferward whole = new Aquiferward();
        Lands.pass(whole, 576);
        due.is("pass(24) at 576", whole.pass(24), 600);
    }

    /** The nine accounts, and the signs next to each of them. */
    private static void accounts() {
        String names = "wrpiosnml";
        Aquiferward land = new Aquiferward();
        for (char name : names.toCharArray()) {
            due.is("account " + name, land.account(name), 0);
            for (char next : new char[] {(char) (name - 1), (char) (name + 1), Character.toUpperCase(name)}) {
                if (names.indexOf(next) < 0) {
                    due.illegal("account " + next, () -> land.account(next));
                }
            }
        }
        for (char sign : new char[] {0, ' ', '0', 128, 255, (char) ('w' + 256), 0xFFFF}) {
            due.illegal("account of the sign " + (int) sign, () -> land.account(sign));
        }
    }
}
