/** Promises 1 to 9: a new object, and what is set about the land. */
public final class LandTest {
    private static final Due due = new Due("LandTest");

    public static void main(String[] args) {
        newObject();
        setCell();
        setCellWrongly();
        setGround();
        setConductance();
        setLeakage();
        setRain();
        setBed();
        setRiver();
        setSea();
        due.end();
    }

    private static void newObject() {
        Aquiferward land = new Aquiferward();
        for (int cell = 0; cell < 16; cell++) {
            due.is("new: water(" + cell + ")", land.water(cell), 0);
            due.is("new: salt(" + cell + ")", land.salt(cell), 0);
            due.is("new: level(" + cell + ")", land.level(cell), 0);
        }
        due.outOfBounds("new: amount(0)", () -> land.amount(0));
        due.refused("new: byAge(0)", java.util.NoSuchElementException.class, () -> land.byAge(0));
        due.is("new: events()", land.events(), 0);
        for (char what : "wrpiosnml".toCharArray()) {
            due.is("new: account(" + what + ")", land.account(what), 0);
        }
        due.is("new: checksum()", land.checksum(), 0);
        due.is("new: pass(1)", land.pass(1), 1);
        due.is("a dry land stays dry", land.checksum(), 0);
        due.is("a dry land brings nothing to the sea", land.account('l'), 0);
        due.is("a dry land has no events", land.events(), 0);
        Aquiferward filled = new Aquiferward();
        filled.setCell(3, 0, 10, 70);
        due.is("new: a storage of 10", filled.setCell(3, 0, 10, 70), 70);
        Aquiferward rained = new Aquiferward();
        rained.setConductance(0, 0);
        rained.setRain(5, 39);
        rained.pass(1);
        due.is("new: a base of 0 and a storage of 10", rained.level(5), 3);
        due.is("two objects have nothing in common", new Aquiferward().checksum(), 0);
    }

    private static void setCell() {
        Aquiferward land = new Aquiferward();
        due.is("setCell(0, -100, 1, 0)", land.setCell(0, -100, 1, 0), 0);
        due.is("level with the least base", land.level(0), -100);
        due.is("setCell(15, 100, 50, 5000)", land.setCell(15, 100, 50, 5000), 0);
        due.is("level of the fullest cell", land.level(15), 200);
        due.is("setCell(15, 100, 50, 49)", land.setCell(15, 100, 50, 49), 5000);
        due.is("level is rounded down", land.level(15), 100);
        due.is("setCell(15, -7, 50, 149)", land.setCell(15, -7, 50, 149), 49);
        due.is("level with a base below 0", land.level(15), -5);
        due.is("account w", land.account('w'), 149);
        due.is("setCell(15, 0, 1, 0)", land.setCell(15, 0, 1, 0), 149);
        due.is("account w goes back", land.account('w'), 0);
        land.setCell(0, -10, 10, 0);
        land.setSea(4);
        land.pass(1);
        due.is("salt from the sea", land.salt(0), 350);
        due.is("setCell of salty water", land.setCell(0, 0, 10, 10), 10);
        due.is("salt of set water", land.salt(0), 0);
    }

    private static void setCellWrongly() {
        Aquiferward land = new Aquiferward();
        land.setCell(0, 5, 7, 9);
        due.outOfBounds("setCell(-1, ..)", () -> land.setCell(-1, 0, 1, 0));
        due.outOfBounds("setCell(16, ..)", () -> land.setCell(16, 0, 1, 0));
        due.outOfBounds("setCell(16, 101, ..)", () -> land.setCell(16, 101, 0, -1));
        due.outOfBounds("setCell(MIN, ..)", () -> land.setCell(Integer.MIN_VALUE, 0, 1, 0));
        due.outOfBounds("setCell(MAX, ..)", () -> land.setCell(Integer.MAX_VALUE, 0, 1, 0));
        due.illegal("setCell base -101", () -> land.setCell(0, -101, 1, 0));
        due.illegal("setCell base 101", () -> land.setCell(0, 101, 1, 0));
        due.illegal("setCell storage 0", () -> land.setCell(0, 0, 0, 0));
        due.illegal("setCell storage -1", () -> land.setCell(0, 0, -1, 0));
        due.illegal("setCell storage 51", () -> land.setCell(0, 0, 51, 0));
        due.illegal("setCell water -1", () -> land.setCell(0, 0, 1, -1));
        due.illegal("setCell water 5001", () -> land.setCell(0, 0, 1, 5001));
        due.is("refused calls change no level", land.level(0), 6);
        due.is("refused calls change no water", land.water(0), 9);
        due.is("refused calls change no account", land.account('w'), 9);
    }

    private static void setGround() {
        Aquiferward land = new Aquiferward();
        due.is("setGround(0, 200)", land.setGround(0, 200), 100);
        due.is("setGround(0, -100)", land.setGround(0, -100), 200);
        due.is("setGround(7, 5)", land.setGround(7, 5), 100);
        due.outOfBounds("setGround(-1, 0)", () -> land.setGround(-1, 0));
        due.outOfBounds("setGround(8, 201)", () -> land.setGround(8, 201));
        due.illegal("setGround(7, -101)", () -> land.setGround(7, -101));
        due.illegal("setGround(7, 201)", () -> land.setGround(7, 201));
        due.is("refused grounds change nothing", land.setGround(7, 6), 5);
        due.is("other grounds stay", land.setGround(6, 6), 100);
    }

    private static void setConductance() {
        Aquiferward land = new Aquiferward();
        due.is("setConductance(0, 0)", land.setConductance(0, 0), 4);
        due.is("setConductance(1, 9)", land.setConductance(1, 9), 4);
        due.outOfBounds("setConductance(-1, 0)", () -> land.setConductance(-1, 0));
        due.outOfBounds("setConductance(2, 10)", () -> land.setConductance(2, 10));
        due.illegal("setConductance(0, -1)", () -> land.setConductance(0, -1));
        due.illegal("setConductance(0, 10)", () -> land.setConductance(0, 10));
        due.is("setConductance(0, 3) again", land.setConductance(0, 3), 0);
        due.is("setConductance(1, 3) again", land.setConductance(1, 3), 9);
    }

    private static void setLeakage() {
        Aquiferward land = new Aquiferward();
        due.is("setLeakage(0, 9)", land.setLeakage(0, 9), 0);
        due.is("setLeakage(7, 1)", land.setLeakage(7, 1), 0);
        due.outOfBounds("setLeakage(-1, 0)", () -> land.setLeakage(-1, 0));
        due.outOfBounds("setLeakage(8, 10)", () -> land.setLeakage(8, 10));
        due.illegal("setLeakage(0, -1)", () -> land.setLeakage(0, -1));
        due.illegal("setLeakage(0, 10)", () -> land.setLeakage(0, 10));
        due.is("setLeakage(0, 0) again", land.setLeakage(0, 0), 9);
        due.is("setLeakage(7, 0) again", land.setLeakage(7, 0), 1);
    }

    private static void setRain() {
        Aquiferward land = new Aquiferward();
        due.is("setRain(0, 99)", land.setRain(0, 99), 0);
        due.is("setRain(7, 1)", land.setRain(7, 1), 0);
        due.outOfBounds("setRain(-1, 0)", () -> land.setRain(-1, 0));
        due.outOfBounds("setRain(8, 100)", () -> land.setRain(8, 100));
        due.illegal("setRain(0, -1)", () -> land.setRain(0, -1));
        due.illegal("setRain(0, 100)", () -> land.setRain(0, 100));
        due.is("setRain(0, 0) again", land.setRain(0, 0), 99);
        due.is("setRain(7, 0) again", land.setRain(7, 0), 1);
    }

    private static void setBed() {
        Aquiferward land = new Aquiferward();
        due.is("setBed(0, -100, 9)", land.setBed(0, -100, 9), 0);
        due.is("setBed(7, 100, 1)", land.setBed(7, 100, 1), 0);
        due.outOfBounds("setBed(-1, 0, 0)", () -> land.setBed(-1, 0, 0));
        due.outOfBounds("setBed(8, 101, 10)", () -> land.setBed(8, 101, 10));
        due.illegal("setBed(0, -101, 0)", () -> land.setBed(0, -101, 0));
        due.illegal("setBed(0, 101, 0)", () -> land.setBed(0, 101, 0));
        due.illegal("setBed(0, 0, -1)", () -> land.setBed(0, 0, -1));
        due.illegal("setBed(0, 0, 10)", () -> land.setBed(0, 0, 10));
        due.is("setBed(0, 0, 0) takes away", land.setBed(0, 0, 0), 9);
        due.is("setBed(0, 0, 2)", land.setBed(0, 0, 2), 0);
        due.is("setBed(7, 0, 2) again", land.setBed(7, 0, 2), 1);
    }

    private static void setRiver() {
        Aquiferward land = new Aquiferward();
        due.is("setRiver(999)", land.setRiver(999), 0);
        due.illegal("setRiver(-1)", () -> land.setRiver(-1));
        due.illegal("setRiver(1000)", () -> land.setRiver(1000));
        due.is("setRiver(0)", land.setRiver(0), 999);
    }

    private static void setSea() {
        Aquiferward land = new Aquiferward();
        due.is("setSea(9)", land.setSea(9), 0);
        due.illegal("setSea(-1)", () -> land.setSea(-1));
        due.illegal("setSea(10)", () -> land.setSea(10));
        due.is("setSea(0)", land.setSea(0), 9);
    }
}
