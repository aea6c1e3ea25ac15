import java.lang.management.ManagementFactory;

/** The calls of one run share one room, so no call may make objects that add up. */
final class RoomTests {
    private static final long ROOM_FOR_ALL_CALLS = 2_000_000;

    static void runAll() {
        Check.promise(0);
        com.sun.management.ThreadMXBean threads =
                (com.sun.management.ThreadMXBean) ManagementFactory.getThreadMXBean();
        long thread = Thread.currentThread().getId();
        SnowRounds x = new SnowRounds();
        long before = threads.getThreadAllocatedBytes(thread);
        dearRun(x);
        long made = threads.getThreadAllocatedBytes(thread) - before;
        Check.isTrue("bytes made by 512 calls (" + made + ") fit into the room", made < ROOM_FOR_ALL_CALLS);
    }

    /** 512 calls, most of them the dearest ones of a full contract. */
    private static void dearRun(SnowRounds x) {
        int calls = 0;
        for (int i = 0; i < 20; i++, calls++) {
            x.addStreet(10 + 90 * i, i % 3);
        }
        for (int plow = 0; plow < 3; plow++, calls++) {
            x.addPlow(700 + plow, 50);
            for (int i = 0; i < 12; i++, calls++) {
                x.addStop(plow, (7 * plow + i) % 20);
            }
        }
        for (int i = 0; i < 150; i++, calls++) {
            x.append("0,0;9,9;".charAt(i % 8));
        }
        for (; calls + 7 <= 512; calls += 7) {
            x.creditsIn(-5, 30, 100);
            x.bestExchange(calls % 3, -5, 30, 50);
            x.leastSpeed(calls % 3, -5, 30, 50);
            x.emptyIn(-5, 1);
            x.runText();
            x.run(3, 40, 5);
            x.digest();
        }
    }

    private RoomTests() {
    }
}
