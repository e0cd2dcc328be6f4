import java.lang.management.ManagementFactory;

/** All calls of one run live in one room, so no call may make anything that is kept or counted. */
public final class RoomTest {
    private static final long ROOM = 4_000_000;

    private RoomTest() {
    }

    public static void main(String[] args) {
        com.sun.management.ThreadMXBean threads =
                (com.sun.management.ThreadMXBean) ManagementFactory.getThreadMXBean();
        if (!threads.isThreadAllocatedMemorySupported()) {
            Check.end();
            return;
        }
        long self = Thread.currentThread().getId();
        long before = threads.getThreadAllocatedBytes(self);
        long sum = dearestRun();
        long made = threads.getThreadAllocatedBytes(self) - before;
        Check.due("the run answers", sum != 0, true);
        Check.due("bytes made by the dearest run: " + made, made < ROOM, true);
        Check.end();
    }

    // Eight couples and seven judges that all agree: fragile() looks at every set of judges and finds none.
    private static long dearestRun() {
        SkateSheet x = Halls.inFinal(8, 7, 5);
        long sum = 0;
        for (int dance = 0; dance < 5; dance++) {
            for (int judge = 0; judge < 7; judge++) {
                x.sheet(judge, dance, 87654321);
            }
        }
        for (int i = 0; i < 400; i++) {
            sum += x.digest() + x.bestExchange(0, 0, 7);
        }
        return sum;
    }
}
