import java.util.ArrayList;
import java.util.Arrays;
import java.util.NoSuchElementException;

/** The water under a land: cells in two layers, a river, springs, a sea, and wells by the age of their rights. */
public final class Aquiferward {
    private static final int COLUMNS = 8;
    private static final int LAYERS = 2;
    private static final int CELLS = 16;
    private static final int MOST_WELLS = 6;
    private static final int MOST_AMOUNT = 999;
    private static final int MOST_PASSED = 24;
    private static final int MOST_MONTHS = 600;
    private static final int MOST_CALLS = 512;
    private static final int NO_WELL = -1;

    private static final int SET_CELL = 0;
    private static final int SET_GROUND = 1;
    private static final int SET_CONDUCTANCE = 2;
    private static final int SET_LEAKAGE = 3;
    private static final int SET_RAIN = 4;
    private static final int SET_BED = 5;
    private static final int SET_RIVER = 6;
    private static final int SET_SEA = 7;
    private static final int ADD_WELL = 8;
    private static final int SET_WISH = 9;
    private static final int TRANSFER = 10;
    private static final int PASS = 11;

    /** The world as it is. */
    private final World world;
    /** The same world once more, done again from the diary; isSound compares it with the first. */
    private final World again;
    /** By number of a well, the world without it; null until somebody asks for it. */
    private final World[] without;
    /** Every call that changed the world, so that other worlds can be made by it. */
    private final ArrayList<Call> diary;

    public Aquiferward() {
        world = new World(NO_WELL, true);
        again = new World(NO_WELL, false);
        without = new World[MOST_WELLS];
        diary = new ArrayList<Call>();
    }

    // ---- The land

    public int setCell(int cell, int base, int storage, int water)
            throws IndexOutOfBoundsException, IllegalArgumentException {
        requireIndex(cell, CELLS);
        requireRange(base, -100, 100);
        requireRange(storage, 1, 50);
        requireRange(water, 0, 5000);
        int before = world.cells.water[cell];
        carryOut(new Call(SET_CELL, cell, base, storage, water));
        return before;
    }

    public int setGround(int column, int ground) throws IndexOutOfBoundsException, IllegalArgumentException {
        requireIndex(column, COLUMNS);
        requireRange(ground, -100, 200);
        int before = world.land.grounds[column];
        carryOut(new Call(SET_GROUND, column, ground, 0, 0));
        return before;
    }

    public int setConductance(int layer, int conductance) throws IndexOutOfBoundsException, IllegalArgumentException {
        requireIndex(layer, LAYERS);
        requireRange(conductance, 0, 9);
        int before = world.land.conductances[layer];
        carryOut(new Call(SET_CONDUCTANCE, layer, conductance, 0, 0));
        return before;
    }

    public int setLeakage(int column, int leakage) throws IndexOutOfBoundsException, IllegalArgumentException {
        requireIndex(column, COLUMNS);
        requireRange(leakage, 0, 9);
        int before = world.land.leakages[column];
        carryOut(new Call(SET_LEAKAGE, column, leakage, 0, 0));
        return before;
    }

    public int setRain(int column, int rain) throws IndexOutOfBoundsException, IllegalArgumentException {
        requireIndex(column, COLUMNS);
        requireRange(rain, 0, 99);
        int before = world.land.rains[column];
        carryOut(new Call(SET_RAIN, column, rain, 0, 0));
        return before;
    }

    public int setBed(int column, int stage, int strength) throws IndexOutOfBoundsException, IllegalArgumentException {
        requireIndex(column, COLUMNS);
        requireRange(stage, -100, 100);
        requireRange(strength, 0, 9);
        int before = world.land.bedStrengths[column];
        carryOut(new Call(SET_BED, column, stage, strength, 0));
        return before;
    }

    public int setRiver(int water) throws IllegalArgumentException {
        requireRange(water, 0, 999);
        int before = world.land.river;
        carryOut(new Call(SET_RIVER, water, 0, 0, 0));
        return before;
    }

    public int setSea(int strength) throws IllegalArgumentException {
        requireRange(strength, 0, 9);
        int before = world.land.sea;
        carryOut(new Call(SET_SEA, strength, 0, 0, 0));
        return before;
    }

    // ---- Wells and rights

    public int addWell(int cell, int year, int amount)
            throws IndexOutOfBoundsException, IllegalArgumentException, IllegalStateException {
        requireIndex(cell, CELLS);
        requireRange(year, 0, 9999);
        requireRange(amount, 0, MOST_AMOUNT);
        int number = world.wells.count;
        if (number >= MOST_WELLS) {
            throw new IllegalStateException("there is no room for another well");
        }
        carryOut(new Call(ADD_WELL, cell, year, amount, 0));
        return number;
    }

    public int setWish(int well, int wish) throws IndexOutOfBoundsException, IllegalArgumentException {
        requireWell(well);
        requireRange(wish, 0, 99);
        int before = world.wells.wishes[well];
        carryOut(new Call(SET_WISH, well, wish, 0, 0));
        return before;
    }

    public int transfer(int from, int to, int amount)
            throws IndexOutOfBoundsException, IllegalArgumentException, UnsupportedOperationException {
        requireWell(from);
        requireWell(to);
        requireRange(amount, 1, MOST_AMOUNT);
        if (!world.wells.canGive(from, to, amount)) {
            throw new UnsupportedOperationException("this transfer is not possible");
        }
        carryOut(new Call(TRANSFER, from, to, amount, 0));
        return world.wells.amounts[from];
    }

    public int pass(int months) throws IllegalArgumentException, ArithmeticException {
        requireRange(months, 1, MOST_PASSED);
        if (world.month + months > MOST_MONTHS) {
            throw new ArithmeticException("so late a month is not counted");
        }
        carryOut(new Call(PASS, months, 0, 0, 0));
        return world.month;
    }

    // ---- Asked

    public int level(int cell) throws IndexOutOfBoundsException {
        requireIndex(cell, CELLS);
        return world.cells.height(cell);
    }

    public int water(int cell) throws IndexOutOfBoundsException {
        requireIndex(cell, CELLS);
        return world.cells.water[cell];
    }

    public int salt(int cell) throws IndexOutOfBoundsException {
        requireIndex(cell, CELLS);
        return world.cells.salt[cell];
    }

    public int amount(int well) throws IndexOutOfBoundsException {
        requireWell(well);
        return world.wells.amounts[well];
    }

    public int yearly(int well) throws IndexOutOfBoundsException {
        requireWell(well);
        return world.wells.thisYear[well];
    }

    public long pumped(int well) throws IndexOutOfBoundsException {
        requireWell(well);
        return world.wells.inAll[well];
    }

    public boolean isShut(int well) throws IndexOutOfBoundsException {
        requireWell(well);
        return world.wells.shut[well];
    }

    public int byAge(int index) throws NoSuchElementException {
        if (index < 0 || index >= world.wells.count) {
            throw new NoSuchElementException("there is no such index");
        }
        return world.wells.oldestFirst[index];
    }

    public long pumpedWithout(int well, int other) throws IndexOutOfBoundsException, UnsupportedOperationException {
        requireWell(well);
        requireWell(other);
        if (well == other) {
            throw new UnsupportedOperationException("a well is not asked without itself");
        }
        World asked = worldWithout(other);
        asked.followDiary(diary);
        return asked.wells.inAll[well];
    }

    public int events() {
        return world.events.length();
    }

    public char eventAt(int index) throws IndexOutOfBoundsException {
        requireIndex(index, world.events.length());
        return world.events.charAt(index);
    }

    public long account(char what) throws IllegalArgumentException {
        int account = Books.NAMES.indexOf(what);
        if (account < 0) {
            throw new IllegalArgumentException("there is no such account");
        }
        return world.books.sums[account];
    }

    // ---- Figures

    public long checksum() {
        long sum = 0;
        for (int cell = 0; cell < CELLS; cell++) {
            sum = 31 * sum + world.cells.water[cell] + 7L * world.cells.salt[cell];
        }
        return sum;
    }

    public float dryShare() {
        int dry = 0;
        for (int cell = 0; cell < CELLS; cell++) {
            if (world.cells.water[cell] == 0) {
                dry++;
            }
        }
        return (float) dry / (float) CELLS;
    }

    public double meanLevel() {
        int sum = 0;
        for (int cell = 0; cell < CELLS; cell++) {
            sum += world.cells.height(cell);
        }
        return (double) sum / (double) CELLS;
    }

    public boolean isSound() {
        again.followDiary(diary);
        return world.books.balanceWith(world.cells.waterInAll())
                && world.cells.sameWater(again.cells)
                && world.wells.keptToAmounts();
    }

    // ---- Behind the face

    private void requireWell(int well) {
        requireIndex(well, world.wells.count);
    }

    private static void requireIndex(int index, int size) {
        if (index < 0 || index >= size) {
            throw new IndexOutOfBoundsException("there is no such index");
        }
    }

    private static void requireRange(int number, int least, int most) {
        if (number < least || number > most) {
            throw new IllegalArgumentException("a number is out of range");
        }
    }

    /** Behind the last promised call the diary stays as it is, so that its size stays bounded. */
    private void carryOut(Call call) {
        if (diary.size() < MOST_CALLS) {
            diary.add(call);
        }
        world.follow(call);
    }

    private World worldWithout(int well) {
        World made = without[well];
        if (made == null) {
            made = new World(well, false);
            without[well] = made;
        }
        return made;
    }

    /** A call that changed the world, with its arguments in their order. */
    private static final class Call {
        final int kind;
        final int first;
        final int second;
        final int third;
        final int fourth;

        Call(int kind, int first, int second, int third, int fourth) {
            this.kind = kind;
            this.first = first;
            this.second = second;
            this.third = third;
            this.fourth = fourth;
        }
    }

    /** What the cells hold: the upper cells of all columns, then the lower ones. */
    private static final class Cells {
        final int[] bases = new int[CELLS];
        final int[] storages = new int[CELLS];
        final int[] water = new int[CELLS];
        final int[] salt = new int[CELLS];

        Cells() {
            Arrays.fill(storages, 10);
        }

        int height(int cell) {
            int storage = storages[cell];
            return storage < 1 ? bases[cell] : bases[cell] + water[cell] / storage;
        }

        /** Takes out water, which the cell must have, and answers the salt that goes with it. */
        int takeOut(int cell, int out) {
            int had = water[cell];
            if (had < 1) {
                return 0;
            }
            int gone = (int) ((long) salt[cell] * out / had);
            water[cell] = had - out;
            salt[cell] -= gone;
            return gone;
        }

        long waterInAll() {
            long sum = 0;
            for (int cell = 0; cell < CELLS; cell++) {
                sum += water[cell];
            }
            return sum;
        }

        boolean sameWater(Cells others) {
            for (int cell = 0; cell < CELLS; cell++) {
                if (water[cell] != others.water[cell]) {
                    return false;
                }
            }
            return true;
        }
    }

    /** What is set about the land, beside its cells. */
    private static final class Land {
        final int[] grounds = new int[COLUMNS];
        final int[] conductances = new int[LAYERS];
        final int[] leakages = new int[COLUMNS];
        final int[] rains = new int[COLUMNS];
        final int[] bedStages = new int[COLUMNS];
        final int[] bedStrengths = new int[COLUMNS];
        int river;
        int sea;

        Land() {
            Arrays.fill(grounds, 100);
            Arrays.fill(conductances, 4);
        }
    }

    /** The accounts since the beginning. */
    private static final class Books {
        /** The name of each account, at its index among the sums. */
        static final String NAMES = "wrpiosnml";
        static final int SET = 0;
        static final int RAINED = 1;
        static final int PUMPED = 2;
        static final int RIVER_TO_GROUND = 3;
        static final int GROUND_TO_RIVER = 4;
        static final int SPRINGS = 5;
        static final int SEA_TO_GROUND = 6;
        static final int GROUND_TO_SEA = 7;
        static final int RIVER_TO_SEA = 8;

        final long[] sums = new long[9];

        /** What the river brings to the sea never was in the ground, and is left aside. */
        boolean balanceWith(long waterInAll) {
            long came = sums[SET] + sums[RAINED] + sums[RIVER_TO_GROUND] + sums[SEA_TO_GROUND];
            long went = sums[PUMPED] + sums[GROUND_TO_RIVER] + sums[SPRINGS] + sums[GROUND_TO_SEA];
            return came == went + waterInAll;
        }
    }

    /** The wells with their rights, by their numbers. */
    private static final class Wells {
        static final int REACH = 2;
        static final int IDLE_YEARS = 3;

        final int[] cells = new int[MOST_WELLS];
        final int[] years = new int[MOST_WELLS];
        final int[] amounts = new int[MOST_WELLS];
        final int[] wishes = new int[MOST_WELLS];
        final int[] thisYear = new int[MOST_WELLS];
        final long[] inAll = new long[MOST_WELLS];
        final boolean[] shut = new boolean[MOST_WELLS];
        final int[] idleYears = new int[MOST_WELLS];
        final int[] givenThisYear = new int[MOST_WELLS];
        final int[] oldestFirst = new int[MOST_WELLS];
        int count;

        void add(int cell, int year, int amount) {
            if (count >= MOST_WELLS) {
                return;
            }
            cells[count] = cell;
            years[count] = year;
            amounts[count] = amount;
            int at = count;
            while (at > 0 && years[oldestFirst[at - 1]] > year) {
                oldestFirst[at] = oldestFirst[at - 1];
                at--;
            }
            oldestFirst[at] = count;
            count++;
        }

        boolean canGive(int from, int to, int amount) {
            return from != to && amounts[from] >= amount && amounts[to] + amount <= MOST_AMOUNT;
        }

        void give(int from, int to, int amount) {
            amounts[from] -= amount;
            amounts[to] += amount;
            givenThisYear[from] += amount;
        }

        /** A transfer may leave less of an amount than was pumped of it already: then nothing is wanted. */
        int wanted(int well) {
            int left = amounts[well] - thisYear[well];
            return Math.max(0, Math.min(wishes[well], left));
        }

        void shutYounger(int place) {
            int cell = cells[oldestFirst[place]];
            for (int later = place + 1; later < count; later++) {
                int well = oldestFirst[later];
                boolean sameLayer = cells[well] / COLUMNS == cell / COLUMNS;
                if (sameLayer && Math.abs(cells[well] - cell) <= REACH) {
                    shut[well] = true;
                }
            }
        }

        /** Counts the year that ends for a well, and answers whether its right is forfeited. */
        boolean forfeits(int well) {
            boolean idle = thisYear[well] == 0 && wishes[well] > 0;
            idleYears[well] = idle ? idleYears[well] + 1 : 0;
            if (idleYears[well] < IDLE_YEARS || amounts[well] == 0) {
                return false;
            }
            amounts[well] = 0;
            idleYears[well] = 0;
            return true;
        }

        void startYear(int well) {
            thisYear[well] = 0;
            givenThisYear[well] = 0;
            shut[well] = false;
        }

        boolean keptToAmounts() {
            for (int well = 0; well < count; well++) {
                if (thisYear[well] > amounts[well] + givenThisYear[well]) {
                    return false;
                }
            }
            return true;
        }
    }

    /** A land with its wells and books, and all that happens in it. */
    private static final class World {
        static final int MONTHS_OF_YEAR = 12;
        static final int SEA_LEVEL = 0;
        static final int SALT_OF_SEA = 35;
        static final int PART = 4;

        final Cells cells = new Cells();
        final Land land = new Land();
        final Wells wells = new Wells();
        final Books books = new Books();
        final StringBuilder events = new StringBuilder();
        final int[] heights = new int[CELLS];
        final int[] waterIn = new int[CELLS];
        final int[] saltIn = new int[CELLS];
        final int leftOut;
        final boolean keepsEvents;
        int month;
        int followed;

        World(int leftOut, boolean keepsEvents) {
            this.leftOut = leftOut;
            this.keepsEvents = keepsEvents;
        }

        /** Goes on from where it stood, as nothing behind that ever changes. */
        void followDiary(ArrayList<Call> diary) {
            for (int at = followed; at < diary.size(); at++) {
                follow(diary.get(at));
            }
            followed = diary.size();
        }

        /** The well that is left out keeps its number, but without a wish it never pumps, and never calls. */
        void follow(Call call) {
            switch (call.kind) {
                case SET_CELL:
                    fillCell(call.first, call.second, call.third, call.fourth);
                    break;
                case SET_GROUND:
                    land.grounds[call.first] = call.second;
                    break;
                case SET_CONDUCTANCE:
                    land.conductances[call.first] = call.second;
                    break;
                case SET_LEAKAGE:
                    land.leakages[call.first] = call.second;
                    break;
                case SET_RAIN:
                    land.rains[call.first] = call.second;
                    break;
                case SET_BED:
                    land.bedStages[call.first] = call.second;
                    land.bedStrengths[call.first] = call.third;
                    break;
                case SET_RIVER:
                    land.river = call.first;
                    break;
                case SET_SEA:
                    land.sea = call.first;
                    break;
                case ADD_WELL:
                    wells.add(call.first, call.second, call.third);
                    break;
                case SET_WISH:
                    if (call.first != leftOut) {
                        wells.wishes[call.first] = call.second;
                    }
                    break;
                case TRANSFER:
                    followTransfer(call.first, call.second, call.third);
                    break;
                default:
                    letMonthsPass(call.first);
                    break;
            }
        }

        private void followTransfer(int from, int to, int amount) {
            if (from != leftOut && to != leftOut && wells.canGive(from, to, amount)) {
                wells.give(from, to, amount);
            }
        }

        private void fillCell(int cell, int base, int storage, int water) {
            books.sums[Books.SET] += water - cells.water[cell];
            cells.bases[cell] = base;
            cells.storages[cell] = storage;
            cells.water[cell] = water;
            cells.salt[cell] = 0;
        }

        private void letMonthsPass(int months) {
            for (int passed = 0; passed < months; passed++) {
                letRainFall();
                pumpWells();
                letWaterFlow();
                letRiverRun();
                letSpringsRun();
                meetSea(0);
                meetSea(COLUMNS);
                endMonth();
            }
        }

        private void note(char event) {
            if (keepsEvents) {
                events.append(event);
            }
        }

        private void letRainFall() {
            for (int column = 0; column < COLUMNS; column++) {
                cells.water[column] += land.rains[column];
                books.sums[Books.RAINED] += land.rains[column];
            }
        }

        private void pumpWells() {
            for (int place = 0; place < wells.count; place++) {
                if (!wells.shut[wells.oldestFirst[place]]) {
                    pumpWell(place);
                }
            }
        }

        private void pumpWell(int place) {
            int well = wells.oldestFirst[place];
            int cell = wells.cells[well];
            int wanted = wells.wanted(well);
            int got = Math.min(wanted, cells.water[cell]);
            cells.takeOut(cell, got);
            wells.thisYear[well] += got;
            wells.inAll[well] += got;
            books.sums[Books.PUMPED] += got;
            if (got < wanted) {
                note('c');
                wells.shutYounger(place);
            }
        }

        /** What comes in waits beside the cells, so that no flow of this month sees it. */
        private void letWaterFlow() {
            for (int cell = 0; cell < CELLS; cell++) {
                heights[cell] = cells.height(cell);
                waterIn[cell] = 0;
                saltIn[cell] = 0;
            }
            for (int cell = 0; cell < CELLS; cell++) {
                int column = cell % COLUMNS;
                int conductance = land.conductances[cell / COLUMNS];
                if (column > 0) {
                    flow(cell, cell - 1, conductance);
                }
                if (column < COLUMNS - 1) {
                    flow(cell, cell + 1, conductance);
                }
                flow(cell, (cell + COLUMNS) % CELLS, land.leakages[column]);
            }
            for (int cell = 0; cell < CELLS; cell++) {
                cells.water[cell] += waterIn[cell];
                cells.salt[cell] += saltIn[cell];
            }
        }

        private void flow(int from, int to, int strength) {
            int wanted = (heights[from] - heights[to]) * strength / PART;
            int out = Math.min(wanted, cells.water[from]);
            if (out > 0) {
                saltIn[to] += cells.takeOut(from, out);
                waterIn[to] += out;
            }
        }

        private void letRiverRun() {
            int river = land.river;
            for (int column = COLUMNS - 1; column >= 0; column--) {
                river += runThroughBed(column, river);
            }
            books.sums[Books.RIVER_TO_SEA] += river;
        }

        /** Answers by how much the river is more behind the column, below 0 if it is less. */
        private int runThroughBed(int column, int river) {
            int wanted = (land.bedStages[column] - cells.height(column)) * land.bedStrengths[column] / PART;
            if (wanted < 0) {
                int out = Math.min(-wanted, cells.water[column]);
                cells.takeOut(column, out);
                books.sums[Books.GROUND_TO_RIVER] += out;
                return out;
            }
            int in = Math.min(wanted, river);
            cells.water[column] += in;
            books.sums[Books.RIVER_TO_GROUND] += in;
            if (wanted > 0 && in == river) {
                note('d');
            }
            return -in;
        }

        private void letSpringsRun() {
            for (int column = 0; column < COLUMNS; column++) {
                if (cells.height(column) > land.grounds[column]) {
                    letSpringRun(column);
                }
            }
        }

        private void letSpringRun(int column) {
            int kept = Math.max(0, (land.grounds[column] - cells.bases[column]) * cells.storages[column]);
            int out = Math.max(0, cells.water[column] - kept);
            cells.takeOut(column, out);
            books.sums[Books.SPRINGS] += out;
        }

        private void meetSea(int cell) {
            int wanted = (SEA_LEVEL - cells.height(cell)) * land.sea / PART;
            if (wanted > 0) {
                cells.water[cell] += wanted;
                cells.salt[cell] += SALT_OF_SEA * wanted;
                books.sums[Books.SEA_TO_GROUND] += wanted;
            } else {
                int out = Math.min(-wanted, cells.water[cell]);
                cells.takeOut(cell, out);
                books.sums[Books.GROUND_TO_SEA] += out;
            }
        }

        private void endMonth() {
            month++;
            if (month % MONTHS_OF_YEAR == 0) {
                endYear();
            }
        }

        private void endYear() {
            for (int well = 0; well < wells.count; well++) {
                if (wells.forfeits(well)) {
                    note('f');
                }
                wells.startYear(well);
            }
        }
    }
}
