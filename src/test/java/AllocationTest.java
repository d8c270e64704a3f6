import java.lang.management.ManagementFactory;

/** All calls of a run share a small room: a new object is of a known size, and calls make next to nothing. */
public final class AllocationTest {
    private static final int CALLS = 512;
    private static final long MOST_FOR_OBJECT = 400_000;
    private static final long MOST_FOR_CALLS = 100_000;
    private static final com.sun.management.ThreadMXBean THREADS =
            (com.sun.management.ThreadMXBean) ManagementFactory.getThreadMXBean();

    public static void main(String[] args) {
        Check check = new Check();
        dearCalls(new CellHandover());
        long before = allocated();
        CellHandover h = new CellHandover();
        long made = allocated() - before;
        check.holds("a new object takes " + made + " bytes", made < MOST_FOR_OBJECT);
        before = allocated();
        dearCalls(h);
        made = allocated() - before;
        check.holds("the calls take " + made + " bytes", made < MOST_FOR_CALLS);
        System.out.println("the calls took " + made + " bytes");
        check.end();
    }

    private static long allocated() {
        return THREADS.getThreadAllocatedBytes(Thread.currentThread().getId());
    }

    private static void dearCalls(CellHandover h) {
        StringBuilder network = new StringBuilder();
        for (int cell = 0; cell < 8; cell++) {
            network.append("cell ").append(100 * cell).append(" 0 60 10 2 6 0 40;");
        }
        for (int cell = 0; cell < 7; cell++) {
            network.append("relation ").append(cell).append(' ').append(cell + 1).append(" 1;");
        }
        Check.load(h, network.toString());
        for (int mobile = 0; mobile < 12; mobile++) {
            h.addMobile(60 * mobile, 0, 9, 3);
        }
        int calls = 60;
        while (calls + 20 < CALLS) {
            for (int mobile = 0; mobile < 12; mobile++) {
                h.call(mobile, 40);
            }
            h.run(20);
            h.bestHysteresis(0, 1, 30);
            h.forecastCell(3, 60);
            h.missingRelation(20);
            h.coverage(3);
            h.undo();
            h.feed(0x6d616e79, 0x206e6f74, 0x20782020, 0x3d312020, 0x20202020);
            h.query(20);
            calls += 20;
        }
    }
}
