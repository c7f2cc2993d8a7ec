import java.lang.management.ManagementFactory;

/** The room of one run of calls: the dearest calls that 512 allow make few objects. */
public final class RoomTest implements Steps {
    // A tenth of what 600,000 objects of some ten fields would take.
    private static final long MOST_BYTES = 6_000_000;

    public static void main(String[] args) {
        Checks checks = new Checks("room");
        dearestFaults(checks);
        dearestRows(checks);
        checks.end();
    }

    private static long made() {
        return ((com.sun.management.ThreadMXBean) ManagementFactory.getThreadMXBean()).getCurrentThreadAllocatedBytes();
    }

    /** Every second step throws a fault. */
    private static void dearestFaults(Checks checks) {
        long before = made();
        GaugeBench x = new GaugeBench();
        x.step(LOOP, 6, 0, 0);
        x.step(LOOP, 6, 0, 0);
        for (int i = 0; i < 8; i++) {
            x.step(TRY, 0, 0, 0);
            x.step(THROW, i, 0, 0);
            x.step(CATCH, 1, 0, 0);
            x.step(END, 0, 0, 0);
        }
        x.step(END, 0, 0, 0);
        x.step(END, 0, 0, 0);
        for (int calls = 36; calls < 512; calls++) {
            x.run();
        }
        long room = made() - before;
        checks.due("bytes of 512 calls that throw faults: " + room, room < MOST_BYTES, true);
        checks.due("count(4)", x.count(4), 92);
    }

    /** Nearly every step makes a row of 16 places, or fits a PROBE. */
    private static void dearestRows(Checks checks) {
        long before = made();
        GaugeBench x = new GaugeBench();
        x.step(SET, 0, 128, 0);
        x.step(LOOP, 6, 0, 0);
        for (int i = 0; i < 36; i++) {
            x.step(i % 2 == 0 ? MAKE : FIT, 16 + i / 2 % 2, i % 2, 0);
        }
        x.step(END, 0, 0, 0);
        for (int calls = 39; calls < 512; calls++) {
            x.run();
        }
        long room = made() - before;
        checks.due("bytes of 512 calls that make rows: " + room, room < 1_000_000, true);
        checks.due("size(16)", x.size(16), 16);
    }
}
