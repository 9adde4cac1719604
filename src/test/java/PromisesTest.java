public final class PromisesTest {
    public static void main(String[] args) {
        Checks checks = new Checks();
        ShutBench bench = new ShutBench();
        checks.due("count(0)", bench.count(0), 0);
        checks.close("PromisesTest");
    }
}
