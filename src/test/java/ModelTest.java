/** Long runs of calls, the same in each run of the test, against the slow model of the document. */
public final class ModelTest {
    private static final Due due = new Due("ModelTest");
    private static final int RUNS = 2000;
    private static final int MOST_CALLS = 512;
    /** Room for the last look at all that can be asked. */
    private static final int LAST_LOOK = 112;

    private final int run;
    private final Aquiferward land = new Aquiferward();
    private final Model model = new Model();
    private long state;
    private int calls;

    private ModelTest(int run) {
        this.run = run;
        state = 88172645463325252L + 7919L * run;
    }

    public static void main(String[] args) {
        int[] seen = new int[128];
        for (int run = 0; run < RUNS; run++) {
            new ModelTest(run).call(seen);
        }
        System.out.println("ModelTest: events c " + seen['c'] + ", f " + seen['f'] + ", d " + seen['d']);
        due.is("there are calls of wells", seen['c'] > 100, true);
        due.is("there are forfeits", seen['f'] > 100, true);
        due.is("there are dry beds", seen['d'] > 100, true);
        due.end();
    }

    /** A number from least to most, by a fixed rule. */
    private int number(int least, int most) {
        state ^= state << 13;
        state ^= state >>> 7;
        state ^= state << 17;
        return least + (int) ((state >>> 11) % (most - least + 1));
    }

    /** Mostly a number from least to most, at times one just outside. */
    private int loose(int least, int most) {
        int[] edges = {least - 1, most + 1, least, most};
        int chance = number(0, 60);
        return chance < edges.length ? edges[chance] : number(least, most);
    }

    private int well() {
        return loose(0, Math.max(0, model.wells.size() - 1));
    }

    private void call(int[] seen) {
        setUp();
        while (calls < MOST_CALLS - LAST_LOOK) {
            change(number(0, 119));
        }
        compare();
        for (int at = 0; at < model.events(); at++) {
            seen[model.eventAt(at)]++;
        }
        due.is("run " + run + " keeps to the calls of an object", calls <= MOST_CALLS, true);
    }

    /** Each run has a land of its own kind: a dry one, a wet one, one by the sea, one along the river. */
    private void setUp() {
        int wet = run % 4;
        for (int cell = 0; cell < 16; cell++) {
            setCell(cell, number(-20, 20) * (wet / 2), number(1, 50), number(0, wet * 300));
        }
        for (int column = 0; column < 8; column++) {
            setRain(column, number(0, 6 * wet));
        }
        if (run % 3 == 0) {
            setSea(number(1, 9));
        }
        if (run % 5 < 3) {
            setRiver(number(0, 40));
            setBed(number(0, 7), number(-20, 20), number(1, 9));
            setBed(number(0, 7), number(-20, 20), number(1, 9));
        }
        for (int well = 0; well < 3; well++) {
            addWell(number(0, 15), number(0, 3), number(0, 99));
            setWish(well, number(0, 20));
        }
    }

    private void change(int kind) {
        if (kind < 4) {
            setCell(loose(0, 15), loose(-100, 100), loose(1, 50), number(0, 3) == 0 ? loose(0, 5000) : number(0, 60));
        } else if (kind < 7) {
            int column = loose(0, 7);
            int ground = loose(-100, 200);
            same("setGround(" + column + ", " + ground + ")",
                    () -> land.setGround(column, ground), () -> model.setGround(column, ground));
        } else if (kind < 10) {
            int layer = loose(0, 1);
            int value = loose(0, 9);
            same("setConductance(" + layer + ", " + value + ")",
                    () -> land.setConductance(layer, value), () -> model.setConductance(layer, value));
        } else if (kind < 14) {
            int column = loose(0, 7);
            int value = loose(0, 9);
            same("setLeakage(" + column + ", " + value + ")",
                    () -> land.setLeakage(column, value), () -> model.setLeakage(column, value));
        } else if (kind < 17) {
            setRain(loose(0, 7), number(0, 2) == 0 ? loose(0, 99) : number(0, 3));
        } else if (kind < 20) {
            setBed(loose(0, 7), loose(-100, 100), loose(0, 9));
        } else if (kind < 22) {
            setRiver(number(0, 2) == 0 ? loose(0, 999) : number(0, 9));
        } else if (kind < 24) {
            setSea(loose(0, 9));
        } else if (kind < 27) {
            addWell(loose(0, 15), number(0, 1) == 0 ? loose(0, 9999) : number(0, 3), loose(0, 999));
        } else if (kind < 40) {
            setWish(well(), number(0, 2) == 0 ? 0 : loose(0, 99));
        } else if (kind < 55) {
            transfer(well(), well(), number(0, 2) == 0 ? loose(1, 999) : number(1, 40));
        } else if (kind < 75) {
            pass(number(1, 2));
        } else if (kind < 78) {
            pass(loose(1, 24));
        } else if (kind < 84) {
            int well = well();
            int other = well();
            same("pumpedWithout(" + well + ", " + other + ")",
                    () -> land.pumpedWithout(well, other), () -> model.pumpedWithout(well, other));
        } else if (kind < 100) {
            pass(1);
        } else {
            ask(kind);
        }
    }

    private void ask(int kind) {
        int cell = loose(0, 15);
        int well = well();
        int event = loose(0, Math.max(0, model.events() - 1));
        if (kind < 102) {
            same("level(" + cell + ")", () -> land.level(cell), () -> model.level(cell));
        } else if (kind < 104) {
            same("salt(" + cell + ")", () -> land.salt(cell), () -> model.salt(cell));
        } else if (kind < 106) {
            same("yearly(" + well + ")", () -> land.yearly(well), () -> model.yearly(well));
        } else if (kind < 108) {
            same("pumped(" + well + ")", () -> land.pumped(well), () -> model.pumped(well));
        } else if (kind < 110) {
            same("isShut(" + well + ")", () -> land.isShut(well), () -> model.isShut(well));
        } else if (kind < 114) {
            same("eventAt(" + event + ")", () -> land.eventAt(event), () -> model.eventAt(event));
        } else if (kind < 118) {
            same("checksum()", land::checksum, model::checksum);
        } else {
            same("isSound()", land::isSound, () -> true);
        }
    }

    private void setCell(int cell, int base, int storage, int water) {
        same("setCell(" + cell + ", " + base + ", " + storage + ", " + water + ")",
                () -> land.setCell(cell, base, storage, water), () -> model.setCell(cell, base, storage, water));
    }

    private void setRain(int column, int rain) {
        same("setRain(" + column + ", " + rain + ")", () -> land.setRain(column, rain), () -> model.setRain(column, rain));
    }

    private void setBed(int column, int stage, int strength) {
        same("setBed(" + column + ", " + stage + ", " + strength + ")",
                () -> land.setBed(column, stage, strength), () -> model.setBed(column, stage, strength));
    }

    private void setRiver(int water) {
        same("setRiver(" + water + ")", () -> land.setRiver(water), () -> model.setRiver(water));
    }

    private void setSea(int strength) {
        same("setSea(" + strength + ")", () -> land.setSea(strength), () -> model.setSea(strength));
    }

    private void addWell(int cell, int year, int amount) {
        same("addWell(" + cell + ", " + year + ", " + amount + ")",
                () -> land.addWell(cell, year, amount), () -> model.addWell(cell, year, amount));
    }

    private void setWish(int well, int wish) {
        same("setWish(" + well + ", " + wish + ")", () -> land.setWish(well, wish), () -> model.setWish(well, wish));
    }

    private void transfer(int from, int to, int amount) {
        same("transfer(" + from + ", " + to + ", " + amount + ")",
                () -> land.transfer(from, to, amount), () -> model.transfer(from, to, amount));
    }

    private void pass(int months) {
        same("pass(" + months + ")", () -> land.pass(months), () -> model.pass(months));
    }

    private void compare() {
        for (int at = -1; at <= 16; at++) {
            int cell = at;
            same("level(" + cell + ")", () -> land.level(cell), () -> model.level(cell));
            same("water(" + cell + ")", () -> land.water(cell), () -> model.water(cell));
            same("salt(" + cell + ")", () -> land.salt(cell), () -> model.salt(cell));
        }
        for (int at = -1; at <= 6; at++) {
            int well = at;
            same("amount(" + well + ")", () -> land.amount(well), () -> model.amount(well));
            same("yearly(" + well + ")", () -> land.yearly(well), () -> model.yearly(well));
            same("pumped(" + well + ")", () -> land.pumped(well), () -> model.pumped(well));
            same("isShut(" + well + ")", () -> land.isShut(well), () -> model.isShut(well));
            same("byAge(" + well + ")", () -> land.byAge(well), () -> model.byAge(well));
        }
        for (char what : "wrpiosnml".toCharArray()) {
            same("account(" + what + ")", () -> land.account(what), () -> model.account(what));
        }
        same("events()", land::events, model::events);
        same("checksum()", land::checksum, model::checksum);
        same("dryShare()", land::dryShare, model::dryShare);
        same("meanLevel()", land::meanLevel, model::meanLevel);
        same("isSound()", land::isSound, () -> true);
    }

    private void same(String call, Due.Asked mine, Due.Asked theirs) {
        calls++;
        due.is("run " + run + ": " + call, outcome(mine), outcome(theirs));
    }

    private static Object outcome(Due.Asked what) {
        try {
            return what.answer();
        } catch (RuntimeException refusal) {
            return refusal.getClass();
        }
    }
}
