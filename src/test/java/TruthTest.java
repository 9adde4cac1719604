/** The SHUTS of curves hold the true values, slopes and areas, and hold them closely. */
public final class TruthTest {
    private static final int ONE = 1048576;
    private static final Checks CHECKS = new Checks();

    private static long state = 11;

    private static int next(int below) {
        state = state * 6364136223846793005L + 1442695040888963407L;
        return (int) ((state >>> 33) % below);
    }

    public static void main(String[] args) {
        for (int i = 0; i < 3000; i++) {
            int p = next(13631488) - 6815744;
            double x = (double) p / ONE;
            points("sin(x)", p, Math.sin(x), Math.cos(x), 40);
            points("cos(x)", p, Math.cos(x), -Math.sin(x), 40);
            points("exp(x)", p, Math.exp(x), Math.exp(x), (long) (30 + 1.1 * Math.exp(x)));
            int q = 1 + next(1 + (1 << next(31)));
            double y = (double) q / ONE;
            points("log(x)", q, Math.log(y), 1 / y, 12 + 4L * ONE / q);
            points("root(x)", q, Math.sqrt(y), 0.5 / Math.sqrt(y), 1);
            points("x^3-x/3", p, x * x * x - x / 3, 3 * x * x - 1.0 / 3, 12);
        }
        areas();
        CHECKS.close("TruthTest");
    }

    private static void points(String text, int p, double value, double slope, long close) {
        ShutBench bench = new ShutBench();
        Checks.tell(bench, text);
        String what = text + " at " + p;
        CHECKS.due(what, bench.at(0, p, p), 0);
        holds(what, bench, value);
        CHECKS.due(what + " is close: " + bench.low() + ", " + bench.high(),
                bench.high() - bench.low() <= close ? 1 : 0, 1);
        if (bench.slope(0, p, p) == 0) {
            holds("slope of " + what, bench, slope);
        }
    }

    /** A double's own fault is far below the thousandth that is spared here. */
    private static void holds(String what, ShutBench bench, double told) {
        double raw = told * ONE;
        double spare = Math.abs(raw) * 1e-12 + 1e-3;
        CHECKS.due(what + " holds " + raw + ": " + bench.low() + ", " + bench.high(),
                bench.low() <= raw + spare && raw - spare <= bench.high() ? 1 : 0, 1);
    }

    private static void areas() {
        ShutBench bench = new ShutBench();
        Checks.tell(bench, "sin(x)");
        Checks.tell(bench, "exp(-x^2)");
        Checks.tell(bench, "root(1-lesser(1,x^2))");
        Checks.tell(bench, "log(x)");
        for (int halvings = 0; halvings <= 200; halvings += 8) {
            CHECKS.due("area", bench.area(0, 0, 3 * ONE, halvings, 0), 0);
            holds("area of sin", bench, 1 - Math.cos(3));
            CHECKS.due("area", bench.area(1, -3 * ONE, 3 * ONE, halvings, 0), 0);
            holds("area of a bell", bench, 1.7724146965190428);
            CHECKS.due("area", bench.area(2, -ONE, ONE, halvings, 0), 0);
            holds("area of half a circle", bench, Math.PI / 2);
            CHECKS.due("area", bench.area(3, ONE, 4 * ONE, halvings, 0), 0);
            holds("area of log", bench, 4 * Math.log(4) - 3);
        }
        CHECKS.due("least", bench.least(1, -ONE, 2 * ONE, 60), 0);
        holds("least of a bell", bench, Math.exp(-4));
        CHECKS.due("greatest", bench.greatest(1, -ONE, 2 * ONE, 60), 0);
        holds("greatest of a bell", bench, 1);
    }
}
