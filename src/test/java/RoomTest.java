import java.lang.management.ManagementFactory;

/** What an object takes of the room that all calls of a run share. */
public final class RoomTest {
    // In bytes. The room has 7.3 million elements, none of which is less than a byte.
    private static final long MOST_NEW = 12_000;
    private static final long MOST_RUN = 80_000;

    public static void main(String[] args) {
        dearestRun(new FarFromAnybody());
        long before = taken();
        FarFromAnybody x = new FarFromAnybody();
        long made = taken();
        int calls = dearestRun(x);
        long ended = taken();
        Check.about("room");
        Check.due("calls " + calls, calls <= 512, true);
        Check.due("a new object takes " + (made - before) + " bytes", made - before <= MOST_NEW, true);
        Check.due("a run takes " + (ended - made) + " bytes", ended - made <= MOST_RUN, true);
        Check.end();
    }

    private static long taken() {
        com.sun.management.ThreadMXBean threads = (com.sun.management.ThreadMXBean) ManagementFactory.getThreadMXBean();
        return threads.getThreadAllocatedBytes(Thread.currentThread().getId());
    }

    /** How many calls. */
    private static int dearestRun(FarFromAnybody x) {
        int calls = 0;
        x.plain(10, 10);
        // pay far*evening+near;
        x.feed(0x70617920, 0x6661722a, 0x6576656e, 0x696e672b, 0x6e656172);
        x.feed(0x3b202020, 0x20202020, 0x20202020, 0x20202020, 0x20202020);
        x.text();
        for (int t = 0; t < 10; t++) {
            x.tent(11 * t, t % 3, t % 4);
        }
        calls += 14;
        for (int i = 0; i < 30; i++) {
            x.yard(5 + 10 * (i % 5), 1 + i % 2);
            x.evenings(10);
            x.rest(0);
            x.saves(0);
            x.line();
            x.send(i % 10, 0);
            x.broken(i % 10);
            x.night(0);
            x.image(i % 2 == 0);
            x.of(i % 10, 7);
            x.way(i, 99 - i);
            calls += 11;
        }
        x.plain(6, 6);
        for (int i = 0; i < 20; i++) {
            x.placings(3, 0);
            x.feed(0x70617920, 0x6661722a, 0x6576656e, 0x696e672b, 0x6e656172);
            x.feed(0x3b202020, 0x20202020, 0x20202020, 0x20202020, 0x20202020);
            x.text();
            calls += 4;
        }
        return calls + 1;
    }
}
