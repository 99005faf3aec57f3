import com.sun.management.ThreadMXBean;
import java.lang.management.ManagementFactory;

/** What a run of 512 calls makes stays far below the room that all runs have, whichever call is made over and over. */
public final class RoomTest {
    private static final Due due = new Due("RoomTest");
    private static final ThreadMXBean THREADS = (ThreadMXBean) ManagementFactory.getThreadMXBean();
    private static final int MOST_CALLS = 512;
    /** The room is some 600,000 objects and 7,300,000 fields and elements: 40,000,000 bytes or more. */
    private static final long MOST_BYTES = 150_000;

    private interface Calls {
        void on(Aquiferward land, int call);
    }

    public static void main(String[] args) {
        keeps("setCell", (land, call) -> land.setCell(call % 16, 0, 10, call));
        keeps("pass(1)", (land, call) -> land.pass(1));
        keeps("pass(24) first", (land, call) -> {
            if (call < 25) {
                land.pass(24);
            } else {
                land.setWish(call % 6, call % 99);
            }
        });
        keeps("transfer", (land, call) -> land.transfer(call % 6, (call + 1) % 6, 1));
        keeps("pass and pumpedWithout", (land, call) -> {
            if (call % 2 == 0) {
                land.pass(1);
            } else {
                land.pumpedWithout(call / 2 % 6, (call / 2 + 1) % 6);
            }
        });
        keeps("pass and isSound", (land, call) -> {
            if (call % 2 == 0) {
                land.pass(1);
            } else {
                land.isSound();
            }
        });
        keeps("pumpedWithout", (land, call) -> land.pumpedWithout(call % 6, (call + 1) % 6));
        due.end();
    }

    private static void keeps(String name, Calls calls) {
        long before = THREADS.getCurrentThreadAllocatedBytes();
        Aquiferward land = new Aquiferward();
        int made = 0;
        for (int column = 0; column < 8; column++) {
            land.setBed(column, 100, 9);
            made++;
        }
        for (int well = 0; well < 6; well++) {
            land.addWell(3 * well, well, 500);
            land.setWish(well, 99);
            made += 2;
        }
        while (made < MOST_CALLS) {
            calls.on(land, made - 20);
            made++;
        }
        long bytes = THREADS.getCurrentThreadAllocatedBytes() - before;
        due.is("bytes made by " + name + ": " + bytes + ", at most " + MOST_BYTES, bytes <= MOST_BYTES, true);
    }
}
