import java.lang.management.ManagementFactory;

/** All calls of a run share one room: the calls make nothing, whatever they are asked. */
public final class RoomTest {
    private static final int ONE = 1048576;
    private static final int MOST_BYTES_MADE = 200000;

    public static void main(String[] args) {
        Checks checks = new Checks();
        com.sun.management.ThreadMXBean beans = (com.sun.management.ThreadMXBean) ManagementFactory.getThreadMXBean();
        long thread = Thread.currentThread().getId();
        calls(new ShutBench());
        ShutBench bench = new ShutBench();
        long before = beans.getThreadAllocatedBytes(thread);
        long made = calls(bench);
        long behind = beans.getThreadAllocatedBytes(thread);
        checks.due("answers", made > 0 ? 1 : 0, 1);
        checks.due("bytes made: " + (behind - before), behind - before < MOST_BYTES_MADE ? 1 : 0, 1);
        before = beans.getThreadAllocatedBytes(thread);
        ShutBench[] benches = new ShutBench[100];
        for (int i = 0; i < benches.length; i++) {
            benches[i] = new ShutBench();
        }
        behind = beans.getThreadAllocatedBytes(thread);
        checks.due("bytes of a bench: " + (behind - before) / 100, (behind - before) / 100 < 40000 ? 1 : 0, 1);
        checks.due("benches", benches[99].count(0), 0);
        checks.close("RoomTest");
    }

    private static long calls(ShutBench bench) {
        long sum = 0;
        // x*x-sin(log(x+2))
        for (int i = 0; i < 60; i++) {
            bench.feed(0x782A782D, 0x73696E28, 0x6C6F6728, 0x782B3229, 0x29202020);
            sum += bench.curve();
            sum += bench.about(0, 2);
            sum += bench.at(0, i, ONE + i) + bench.slope(0, i, ONE + i);
            sum += bench.area(0, i, ONE + i, 20, 0) + bench.roots(0, -ONE + i, ONE, 8000);
            sum += bench.least(0, i, ONE + i, 20) + bench.greatest(0, i, ONE + i, 20);
            sum += bench.never(0, i, ONE + i, -5 * ONE, 40) + bench.part(0, 1) + bench.count(4);
            sum += bench.low() + bench.high() + bench.drop();
        }
        return sum == 0 ? 1 : Math.abs(sum);
    }
}
