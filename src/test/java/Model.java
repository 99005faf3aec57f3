import java.math.BigInteger;
import java.util.ArrayList;
import java.util.Arrays;
import java.util.Comparator;
import java.util.List;
import java.util.NoSuchElementException;

/** The document once more, written for its words alone: slow, with lists and whole numbers without a bound. */
final class Model {
    static final class Cell {
        int base;
        int storage = 10;
        long water;
        long salt;

        int level() {
            return (int) (base + Math.floorDiv(water, (long) storage));
        }

        /** Lets water out and answers its salt. */
        long out(long amount) {
            if (amount == 0) {
                return 0;
            }
            BigInteger gone = BigInteger.valueOf(salt).multiply(BigInteger.valueOf(amount)).divide(BigInteger.valueOf(water));
            water -= amount;
            salt -= gone.longValueExact();
            return gone.longValueExact();
        }
    }

    static final class Well {
        final int number;
        final int cell;
        final int year;
        int amount;
        int wish;
        int yearly;
        long pumped;
        boolean shut;
        int row;

        Well(int number, int cell, int year, int amount) {
            this.number = number;
            this.cell = cell;
            this.year = year;
            this.amount = amount;
        }
    }

    /** A call that was answered, so that it can be made again. */
    interface Step {
        void on(Model model);
    }

    final Cell[] cells = new Cell[16];
    final int[] ground = new int[8];
    final int[] conductance = {4, 4};
    final int[] leakage = new int[8];
    final int[] rain = new int[8];
    final int[] stage = new int[8];
    final int[] strength = new int[8];
    int river;
    int sea;
    int month;
    final List<Well> wells = new ArrayList<>();
    final StringBuilder events = new StringBuilder();
    final long[] accounts = new long[128];
    private final List<Step> steps = new ArrayList<>();
    private int missing = -1;

    Model() {
        for (int cell = 0; cell < 16; cell++) {
            cells[cell] = new Cell();
        }
        Arrays.fill(ground, 100);
    }

    private void step(Step step) {
        steps.add(step);
        step.on(this);
    }

    private static void index(boolean right) {
        if (!right) {
            throw new IndexOutOfBoundsException();
        }
    }

    private static void range(int number, int least, int most) {
        if (number < least || number > most) {
            throw new IllegalArgumentException();
        }
    }

    private void well(int number) {
        index(number >= 0 && number < wells.size());
    }

    int setCell(int cell, int base, int storage, int water) {
        index(cell >= 0 && cell <= 15);
        range(base, -100, 100);
        range(storage, 1, 50);
        range(water, 0, 5000);
        int before = (int) cells[cell].water;
        step(m -> {
            m.accounts['w'] += water - m.cells[cell].water;
            m.cells[cell] = new Cell();
            m.cells[cell].base = base;
            m.cells[cell].storage = storage;
            m.cells[cell].water = water;
        });
        return before;
    }

    int setGround(int column, int value) {
        index(column >= 0 && column <= 7);
        range(value, -100, 200);
        int before = ground[column];
        step(m -> m.ground[column] = value);
        return before;
    }

    int setConductance(int layer, int value) {
        index(layer == 0 || layer == 1);
        range(value, 0, 9);
        int before = conductance[layer];
        step(m -> m.conductance[layer] = value);
        return before;
    }

    int setLeakage(int column, int value) {
        index(column >= 0 && column <= 7);
        range(value, 0, 9);
        int before = leakage[column];
        step(m -> m.leakage[column] = value);
        return before;
    }

    int setRain(int column, int value) {
        index(column >= 0 && column <= 7);
        range(value, 0, 99);
        int before = rain[column];
        step(m -> m.rain[column] = value);
        return before;
    }

    int setBed(int column, int newStage, int newStrength) {
        index(column >= 0 && column <= 7);
        range(newStage, -100, 100);
        range(newStrength, 0, 9);
        int before = strength[column];
        step(m -> {
            m.stage[column] = newStage;
            m.strength[column] = newStrength;
        });
        return before;
    }

    int setRiver(int water) {
        range(water, 0, 999);
        int before = river;
        step(m -> m.river = water);
        return before;
    }

    int setSea(int value) {
        range(value, 0, 9);
        int before = sea;
        step(m -> m.sea = value);
        return before;
    }

    int addWell(int cell, int year, int amount) {
        index(cell >= 0 && cell <= 15);
        range(year, 0, 9999);
        range(amount, 0, 999);
        if (wells.size() == 6) {
            throw new IllegalStateException();
        }
        step(m -> m.wells.add(new Well(m.wells.size(), cell, year, amount)));
        return wells.size() - 1;
    }

    int setWish(int well, int wish) {
        well(well);
        range(wish, 0, 99);
        int before = wells.get(well).wish;
        step(m -> m.wells.get(well).wish = wish);
        return before;
    }

    int transfer(int from, int to, int amount) {
        well(from);
        well(to);
        range(amount, 1, 999);
        if (!possible(from, to, amount)) {
            throw new UnsupportedOperationException();
        }
        step(m -> {
            if (from != m.missing && to != m.missing && m.possible(from, to, amount)) {
                m.wells.get(from).amount -= amount;
                m.wells.get(to).amount += amount;
            }
        });
        return wells.get(from).amount;
    }

    private boolean possible(int from, int to, int amount) {
        return from != to && wells.get(from).amount >= amount && wells.get(to).amount + amount <= 999;
    }

    int pass(int months) {
        range(months, 1, 24);
        if (month + months > 600) {
            throw new ArithmeticException();
        }
        step(m -> {
            for (int passed = 0; passed < months; passed++) {
                m.onePasses();
            }
        });
        return month;
    }

    private List<Well> byAge() {
        List<Well> sorted = new ArrayList<>(wells);
        sorted.sort(Comparator.<Well>comparingInt(w -> w.year).thenComparingInt(w -> w.number));
        return sorted;
    }

    private void onePasses() {
        for (int column = 0; column < 8; column++) {
            cells[column].water += rain[column];
            accounts['r'] += rain[column];
        }
        pump();
        flow();
        runRiver();
        for (int column = 0; column < 8; column++) {
            Cell cell = cells[column];
            if (cell.level() > ground[column]) {
                long keep = Math.max(0L, (long) (ground[column] - cell.base) * cell.storage);
                while (cell.water > keep) {
                    long off = cell.water - keep;
                    cell.out(off);
                    accounts['s'] += off;
                }
            }
        }
        meetSea(cells[0]);
        meetSea(cells[8]);
        month++;
        if (month % 12 == 0) {
            endYear();
        }
    }

    private void pump() {
        List<Well> sorted = byAge();
        for (Well well : sorted) {
            if (well.shut || well.number == missing) {
                continue;
            }
            Cell cell = cells[well.cell];
            int lesser = Math.min(well.wish, well.amount - well.yearly);
            if (lesser <= 0) {
                continue;
            }
            int got = (int) Math.min(lesser, cell.water);
            cell.out(got);
            well.yearly += got;
            well.pumped += got;
            accounts['p'] += got;
            if (got < lesser) {
                events.append('c');
                for (Well other : sorted) {
                    boolean younger = other.year > well.year || other.year == well.year && other.number > well.number;
                    boolean layer = (other.cell < 8) == (well.cell < 8);
                    if (younger && layer && Math.abs(other.cell % 8 - well.cell % 8) < 3) {
                        other.shut = true;
                    }
                }
            }
        }
    }

    /** Towards nought, by way of the absolute value. */
    private static long quarter(long number) {
        return Long.signum(number) * (Math.abs(number) >> 2);
    }

    private void flow() {
        long[][] wanted = new long[16][16];
        for (int cell = 0; cell < 16; cell++) {
            if (cell % 8 < 7) {
                plan(wanted, cell, cell + 1, conductance[cell < 8 ? 0 : 1]);
            }
            if (cell < 8) {
                plan(wanted, cell, cell + 8, leakage[cell]);
            }
        }
        long[] water = new long[16];
        long[] salt = new long[16];
        for (int cell = 0; cell < 16; cell++) {
            for (int to : new int[] {cell - 1, cell + 1, cell < 8 ? cell + 8 : cell - 8}) {
                if (to >= 0 && to < 16 && wanted[cell][to] > 0) {
                    long goes = Math.min(wanted[cell][to], cells[cell].water);
                    salt[to] += cells[cell].out(goes);
                    water[to] += goes;
                }
            }
        }
        for (int cell = 0; cell < 16; cell++) {
            cells[cell].water += water[cell];
            cells[cell].salt += salt[cell];
        }
    }

    private void plan(long[][] wanted, int one, int other, int factor) {
        long goes = quarter((long) (cells[one].level() - cells[other].level()) * factor);
        if (goes > 0) {
            wanted[one][other] = goes;
        } else {
            wanted[other][one] = -goes;
        }
    }

    private void runRiver() {
        long has = river;
        for (int column = 7; column >= 0; column--) {
            if (strength[column] == 0) {
                continue;
            }
            Cell cell = cells[column];
            long goes = quarter((long) (stage[column] - cell.level()) * strength[column]);
            if (goes > 0) {
                long given = Math.min(goes, has);
                has -= given;
                cell.water += given;
                accounts['i'] += given;
                if (has == 0) {
                    events.append('d');
                }
            }
            if (goes < 0) {
                long drunk = Math.min(-goes, cell.water);
                cell.out(drunk);
                has += drunk;
                accounts['o'] += drunk;
            }
        }
        accounts['l'] += has;
    }

    private void meetSea(Cell cell) {
        long goes = quarter((long) (0 - cell.level()) * sea);
        if (goes > 0) {
            cell.water += goes;
            cell.salt += 35 * goes;
            accounts['n'] += goes;
        } else {
            long out = Math.min(-goes, cell.water);
            cell.out(out);
            accounts['m'] += out;
        }
    }

    private void endYear() {
        for (Well well : wells) {
            if (well.number == missing) {
                continue;
            }
            if (well.wish > 0 && well.yearly == 0) {
                well.row++;
            } else {
                well.row = 0;
            }
            if (well.row >= 3 && well.amount > 0) {
                well.amount = 0;
                well.row = 0;
                events.append('f');
            }
            well.shut = false;
            well.yearly = 0;
        }
    }

    int level(int cell) {
        index(cell >= 0 && cell <= 15);
        return cells[cell].level();
    }

    int water(int cell) {
        index(cell >= 0 && cell <= 15);
        return (int) cells[cell].water;
    }

    int salt(int cell) {
        index(cell >= 0 && cell <= 15);
        return Math.toIntExact(cells[cell].salt);
    }

    int amount(int well) {
        well(well);
        return wells.get(well).amount;
    }

    int yearly(int well) {
        well(well);
        return wells.get(well).yearly;
    }

    long pumped(int well) {
        well(well);
        return wells.get(well).pumped;
    }

    boolean isShut(int well) {
        well(well);
        return wells.get(well).shut;
    }

    int byAge(int at) {
        if (at < 0 || at >= wells.size()) {
            throw new NoSuchElementException();
        }
        return byAge().get(at).number;
    }

    long pumpedWithout(int well, int other) {
        well(well);
        well(other);
        if (well == other) {
            throw new UnsupportedOperationException();
        }
        Model model = new Model();
        model.missing = other;
        for (Step step : steps) {
            step.on(model);
        }
        return model.wells.get(well).pumped;
    }

    int events() {
        return events.length();
    }

    char eventAt(int at) {
        index(at >= 0 && at < events.length());
        return events.charAt(at);
    }

    long account(char what) {
        if ("wrpiosnml".indexOf(what) < 0) {
            throw new IllegalArgumentException();
        }
        return accounts[what];
    }

    long checksum() {
        long sum = 0;
        for (Cell cell : cells) {
            sum = sum * 31 + cell.water + cell.salt * 7;
        }
        return sum;
    }

    float dryShare() {
        return Arrays.stream(cells).filter(c -> c.water == 0).count() / 16f;
    }

    double meanLevel() {
        return Arrays.stream(cells).mapToInt(Cell::level).sum() / 16d;
    }
}
