/** A method for each promise: ordinary inputs, the edges that the document names, wrong inputs. */
public final class PromisesTest {
    private static final int MIN = Integer.MIN_VALUE;
    private static final int MAX = Integer.MAX_VALUE;
    private static final int ONE = 1048576;

    private static final Checks CHECKS = new Checks();

    public static void main(String[] args) {
        aNewObject();
        feed();
        end();
        curveFaults();
        curveFaultsOfActs();
        curveNumbers();
        drop();
        about();
        degree();
        atNumbers();
        atSums();
        atPowers();
        atNames();
        atExpAndLog();
        atWaves();
        slope();
        slopeOfChoices();
        area();
        areaOfHoles();
        roots();
        part();
        least();
        greatest();
        never();
        lowAndHigh();
        count();
        curvesThatNameCurves();
        CHECKS.close("PromisesTest");
    }

    private static ShutBench with(String... texts) {
        ShutBench bench = new ShutBench();
        for (int i = 0; i < texts.length; i++) {
            CHECKS.due("curve() of " + texts[i], Checks.tell(bench, texts[i]), i);
        }
        return bench;
    }

    /** The value of a text over a span. */
    private static void value(String text, int a, int b, long low, long high) {
        ShutBench bench = with(text);
        CHECKS.due("at() of " + text, bench.at(0, a, b), 0);
        CHECKS.dueShut(text + " over " + a + ", " + b, bench, low, high);
    }

    private static void valueHole(String text, int a, int b) {
        CHECKS.due("at() of " + text + " over " + a + ", " + b, with(text).at(0, a, b), 1);
    }

    private static void slope(String text, int a, int b, long low, long high) {
        ShutBench bench = with(text);
        CHECKS.due("slope() of " + text, bench.slope(0, a, b), 0);
        CHECKS.dueShut("slope of " + text + " over " + a + ", " + b, bench, low, high);
    }

    private static void slopeHole(String text, int a, int b) {
        CHECKS.due("slope() of " + text + " over " + a + ", " + b, with(text).slope(0, a, b), 1);
    }

    private static void fault(String text, int kind, int place) {
        ShutBench bench = new ShutBench();
        CHECKS.due("curve() of " + text, Checks.tell(bench, text), -2 - (kind + 4 * place));
        CHECKS.due("count(0) behind " + text, bench.count(0), 0);
        CHECKS.due("count(1) behind " + text, bench.count(1), 0);
    }

    private static String times(String text, int n) {
        return text.repeat(n);
    }

    // ---- 1
    private static void aNewObject() {
        ShutBench bench = new ShutBench();
        for (int what = 0; what < 5; what++) {
            CHECKS.due("count", bench.count(what), 0);
        }
        CHECKS.dueShut("new", bench, 0, 0);
        CHECKS.due("part", bench.part(0, 0), 0);
        CHECKS.due("about", bench.about(0, 0), -1);
        CHECKS.due("at", bench.at(0, 0, 0), -1);
        CHECKS.due("slope", bench.slope(0, 0, 0), -1);
        CHECKS.due("area", bench.area(0, 0, 1, 0, 0), -1);
        CHECKS.due("roots", bench.roots(0, 0, 1, 1), -1);
        CHECKS.due("least", bench.least(0, 0, 1, 0), -1);
        CHECKS.due("greatest", bench.greatest(0, 0, 1, 0), -1);
        CHECKS.due("never", bench.never(0, 0, 1, 0, 1), -1);
        CHECKS.due("drop", bench.drop(), -1);
        CHECKS.due("NONE", ShutBench.NONE, -1);
    }

    // ---- 2
    private static void feed() {
        ShutBench bench = new ShutBench();
        for (int n = 1; n <= 10; n++) {
            CHECKS.due("feed", bench.feed(0x20202020, 0x20202020, 0x20202020, 0x20202020, 0x20202020), 20 * n);
        }
        CHECKS.due("feed of a full TAPE", bench.feed(0, 0, 0, 0, 0), -1);
        CHECKS.due("count(1)", bench.count(1), 200);
        CHECKS.due("end", bench.end(181), 181);
        CHECKS.due("feed beyond 200", bench.feed(0, 0, 0, 0, 0), -1);
        CHECKS.due("count(1)", bench.count(1), 181);
        CHECKS.due("end", bench.end(180), 180);
        CHECKS.due("feed up to 200", bench.feed(0x20202020, 0x20202020, 0x20202020, 0x20202020, 0x20202078), 200);
        CHECKS.due("curve", bench.curve(), 0);
        CHECKS.due("feed", bench.feed(0x312B7820, 0x20202020, 0x20202020, 0x20202020, 0x2B202D78), 20);
        CHECKS.due("highest byte first", bench.curve(), 1);
        CHECKS.due("about", bench.about(1, 0), 6);
        CHECKS.due("feed of signs above 127", bench.feed(-1, -1, -1, -1, -1), 20);
        CHECKS.due("curve", bench.curve(), -3);
    }

    // ---- 3
    private static void end() {
        ShutBench bench = new ShutBench();
        CHECKS.due("end(0)", bench.end(0), 0);
        CHECKS.due("end(1)", bench.end(1), -1);
        CHECKS.due("feed", bench.feed(0x782B3120, 0, 0, 0, 0), 20);
        CHECKS.due("end(21)", bench.end(21), -1);
        CHECKS.due("end(-1)", bench.end(-1), -1);
        CHECKS.due("end(MIN)", bench.end(MIN), -1);
        CHECKS.due("end(MAX)", bench.end(MAX), -1);
        CHECKS.due("count(1)", bench.count(1), 20);
        CHECKS.due("end(20)", bench.end(20), 20);
        CHECKS.due("end(4)", bench.end(4), 4);
        CHECKS.due("end(5)", bench.end(5), -1);
        CHECKS.due("curve", bench.curve(), 0);
        CHECKS.due("at", bench.at(0, 5, 6), 0);
        CHECKS.dueShut("x+1", bench, ONE + 5, ONE + 6);
    }

    // ---- 4
    private static void curveFaults() {
        fault("", 1, 0);
        fault("  ", 1, 2);
        fault("x x", 1, 2);
        fault("xx", 1, 0);
        fault("X", 1, 0);
        fault("x\u00e9", 1, 1);
        fault("\u0000", 1, 0);
        fault("x^10", 1, 3);
        fault("x^0", 1, 2);
        fault("x^", 1, 2);
        fault("x^  ", 1, 4);
        fault("x^-1", 1, 2);
        fault("x^2^3", 1, 3);
        fault("x^2x", 1, 3);
        fault("x^2.5", 1, 3);
        fault("--x", 1, 1);
        fault("x*--x", 1, 3);
        fault("x+", 1, 2);
        fault("*x", 1, 0);
        fault("12345", 1, 0);
        fault("2x", 1, 0);
        fault("x+.5", 1, 2);
        fault("5.", 1, 0);
        fault("1.2.3", 1, 0);
        fault("1.23456", 1, 0);
        fault("c", 1, 0);
        fault("c8", 1, 0);
        fault("c01", 1, 0);
        fault("c 0", 1, 0);
        fault("roots(x)", 1, 0);
        fault("sin x", 1, 4);
        fault("sin", 1, 3);
        fault("sin()", 1, 4);
        fault("sin(x", 1, 5);
        fault("sin(x,x)", 1, 5);
        fault("lesser(x)", 1, 8);
        fault("lesser(x,x,x)", 1, 10);
        fault("greater(,x)", 1, 8);
        fault("(x", 1, 2);
        fault("(x,x)", 1, 2);
        fault("x)", 1, 1);
        fault("()", 1, 1);
        fault("x,", 1, 1);
        fault("c0", 2, 0);
        fault("2* c7", 2, 3);
        with(" x ^ 9 ", "- ( x ) ^1*-2.5/0001.0001", "x+-x--x", "lesser ( x , greater(1,2) )", "c0^2", "exp(log(x))");
    }

    private static void curveFaultsOfActs() {
        fault(times("(", 13) + "x" + times(")", 13), 3, 12);
        fault(times("sin(", 13) + "x" + times(")", 13), 3, 51);
        fault(times("(", 12) + "sin (x)" + times(")", 12), 3, 16);
        with(times("(", 12) + "x" + times(")", 12), times("cos(", 12) + "x" + times(")", 12), "(x)" + times("+(x)", 13));
        fault(times("x+", 30) + "x", 3, 60);
        fault(times("x+", 30) + "c7", 3, 60);
        fault(times("x+", 30) + "y", 1, 60);
        fault(times("x+", 30) + "-x", 3, 60);
        fault(times("x+", 30) + "sin(x)", 3, 60);
        fault(times("x+", 29) + "-x^0", 3, 60);
        fault(times("x+", 29) + "-x)", 1, 60);
        fault(times("x+", 29) + "-x*", 3, 60);
        fault(times("x+", 29) + "-x  /x", 3, 62);
        ShutBench bench = with(times("x+", 29) + "-x", times("x+", 29) + "x^2", times("x+", 27) + "lesser(x,x)^3");
        for (int k = 0; k < 3; k++) {
            CHECKS.due("about", bench.about(k, 0), k == 2 ? 58 : 60);
        }
    }

    private static void curveNumbers() {
        ShutBench bench = with("x", "1", "c0", "c1", "c2", "c3", "c4", "c5");
        CHECKS.due("a ninth", Checks.tell(bench, "x"), -1);
        CHECKS.due("count(1)", bench.count(1), 0);
        CHECKS.due("drop", bench.drop(), 7);
        CHECKS.due("c7 has gone", Checks.tell(bench, "c7"), -4);
        CHECKS.due("the next one", Checks.tell(bench, "c6+1"), 7);
    }

    // ---- 5
    private static void drop() {
        ShutBench bench = with("x", "2");
        CHECKS.due("drop", bench.drop(), 1);
        CHECKS.due("at", bench.at(1, 0, 0), -1);
        CHECKS.due("at", bench.at(0, 3, 3), 0);
        CHECKS.due("drop", bench.drop(), 0);
        CHECKS.due("drop", bench.drop(), -1);
        CHECKS.due("count(0)", bench.count(0), 0);
        CHECKS.due("curve", Checks.tell(bench, "3"), 0);
        CHECKS.due("at", bench.at(0, 0, 0), 0);
        CHECKS.dueShut("3", bench, 3 * ONE, 3 * ONE);
    }

    // ---- 6
    private static void about() {
        ShutBench bench = with("x", "-lesser(x,2)^3+c0", "c1", "size(x)", "greater(x,x)", "exp(x)/2", "c0+c5");
        int[] acts = {1, 7, 1, 2, 3, 4, 3};
        int[] smooth = {1, 0, 0, 0, 0, 1, 1};
        int[] degrees = {1, -1, -1, -1, -1, -1, -1};
        for (int k = 0; k < acts.length; k++) {
            CHECKS.due("about(" + k + ", 0)", bench.about(k, 0), acts[k]);
            CHECKS.due("about(" + k + ", 1)", bench.about(k, 1), smooth[k]);
            CHECKS.due("about(" + k + ", 2)", bench.about(k, 2), degrees[k]);
            CHECKS.due("about(" + k + ", 3)", bench.about(k, 3), -1);
            CHECKS.due("about(" + k + ", -1)", bench.about(k, -1), -1);
        }
        CHECKS.due("about(7, 0)", bench.about(7, 0), -1);
        CHECKS.due("about(-1, 0)", bench.about(-1, 0), -1);
        CHECKS.due("about(MIN, 0)", bench.about(MIN, 0), -1);
        CHECKS.due("about(MAX, 0)", bench.about(MAX, 0), -1);
    }

    private static void degree() {
        ShutBench bench = with("x^9", "c0^9", "c1^9", "c2*c2", "c2^9", "x*x-x^5", "-x^2", "9999-2.5");
        int[] degrees = {9, 81, 729, 1000, 1000, 5, 2, 0};
        for (int k = 0; k < degrees.length; k++) {
            CHECKS.due("about(" + k + ", 2)", bench.about(k, 2), degrees[k]);
        }
        bench = with("(x+1)^3*(x-2)^2", "x/2", "x^2*(1-root(4))", "c0*x", "c1*x", "(2)^9", "x^1", "c5-c3");
        degrees = new int[] {5, -1, -1, 6, -1, 0, 1, 6};
        for (int k = 0; k < degrees.length; k++) {
            CHECKS.due("about(" + k + ", 2)", bench.about(k, 2), degrees[k]);
        }
    }

    // ---- 7
    private static void atNumbers() {
        value("x", MIN, MAX, MIN, MAX);
        value("0", 0, 0, 0, 0);
        value("0.0001", 5, 9, 104, 105);
        value("0.5", 0, 0, ONE / 2, ONE / 2);
        value("2047", 0, 0, 2146435072L, 2146435072L);
        value("2047.9999", 0, 0, 2147483543L, 2147483544L);
        value("0010.2500", 0, 0, 10747904, 10747904);
        valueHole("2048", 0, 0);
        valueHole("9999.9999", 0, 0);
        ShutBench bench = with("x");
        CHECKS.due("a above b", bench.at(0, 1, 0), -1);
        CHECKS.due("no CURVE", bench.at(1, 0, 0), -1);
        CHECKS.due("no CURVE", bench.at(-1, 0, 0), -1);
        CHECKS.due("a is b", bench.at(0, 0, 0), 0);
    }

    private static void atSums() {
        value("x+1", -3, 4, ONE - 3, ONE + 4);
        valueHole("x+1", 0, MAX);
        value("x-x", -3, 4, -7, 7);
        valueHole("x-x", MIN, 0);
        value("-x", -3, 4, -4, 3);
        value("-x", MIN + 1, 0, 0, MAX);
        valueHole("-x", MIN, 0);
        value("x*x", 3, 3, 0, 1);
        value("x*x", -3, 5 * ONE, -15, 25 * ONE);
        value("x*-x", 3, 3, -1, 0);
        value("x*2", -1, 3, -2, 6);
        valueHole("x*2", 0, 1 << 30);
        valueHole("x*x", MIN, MAX);
        value("x*0", MIN, MAX, 0, 0);
        value("x/3", 1, 1, 0, 1);
        value("x/3", -1, -1, -1, 0);
        value("1/x", ONE / 2, 2 * ONE, ONE / 2, 2 * ONE);
        value("x/-x", 2 * ONE, 4 * ONE, -2 * ONE, -ONE / 2);
        value("x/(x-4)", -ONE, ONE, -349526, 349526);
        valueHole("1/x", -1, 0);
        valueHole("1/x", 0, 0);
        valueHole("1/x", 0, 5);
        valueHole("1/x", -5, 5);
        valueHole("1/x", 1, 1);
        valueHole("9999*0", 0, 0);
        value("x-x*2+1", 0, 0, ONE, ONE);
        value("8/2/2", 0, 0, 2 * ONE, 2 * ONE);
        value("8-2-2", 0, 0, 4 * ONE, 4 * ONE);
    }

    private static void atPowers() {
        value("x^2", -1024, 2048, 0, 4);
        value("x^2", 1024, 2048, 1, 4);
        value("x^2", -2048, -1024, 1, 4);
        value("x^2", -3, -1, 0, 1);
        value("-x^2", 2 * ONE, 2 * ONE, -4 * ONE, -4 * ONE);
        value("x^3", -1024, 1024, -1, 1);
        value("x^3", -1024, -1024, -1, 0);
        value("x^3", -2 * ONE, 3 * ONE, -8 * ONE, 27 * ONE);
        value("x^1", MIN, MAX, MIN, MAX);
        value("2^9", 0, 0, 512 * ONE, 512 * ONE);
        value("x^2", 47453132, 47453132, 2147483574L, 2147483575L);
        valueHole("x^2", 47453133, 47453133);
        value("x^5", -1, 1, -1, 1);
        value("x^9", 2 * ONE, 2 * ONE, 512 * ONE, 512 * ONE);
        valueHole("x^9", 0, 3 * ONE);
    }

    private static void atNames() {
        value("size(x)", 2, 3, 2, 3);
        value("size(x)", -3, -2, 2, 3);
        value("size(x)", -3, 2, 0, 3);
        value("size(x)", -3, 4, 0, 4);
        value("size(x)", MIN + 1, MAX, 0, MAX);
        valueHole("size(x)", MIN, MAX);
        valueHole("size(x)", MIN, MIN);
        value("lesser(x,1)", 5, 2 * ONE, 5, ONE);
        value("greater(x,1)", 5, 2 * ONE, ONE, 2 * ONE);
        valueHole("greater(x,9999)", 0, 0);
        valueHole("lesser(9999,x)", 0, 0);
        value("root(x)", 1, 2, 1024, 1449);
        value("root(x)", 2, 4, 1448, 2048);
        value("root(x)", 0, MAX, 0, 47453133);
        valueHole("root(x)", -1, 5);
    }

    private static void atExpAndLog() {
        value("exp(x)", 0, 0, ONE, ONE + 1);
        value("exp(x)", MIN, MIN, 0, 1);
        value("exp(x)", MIN, 7994000, 0, 2145452911L);
        valueHole("exp(x)", 0, 7994001);
        valueHole("log(x)", 0, ONE);
        valueHole("log(x)", -1, -1);
        ShutBench bench = with("log(x)");
        CHECKS.due("log(MAX)", bench.at(0, MAX, MAX), 0);
        CHECKS.due("log(MAX)", bench.high(), 7995393);
        CHECKS.due("log(1)", bench.at(0, 1, 1), 0);
        CHECKS.due("log(2^-20) is told", bench.low() <= -14536350 && bench.high() >= -14536350 ? 1 : 0, 1);
        CHECKS.due("log(2^20)", bench.at(0, ONE, ONE), 0);
        CHECKS.due("log of 1 is 0", bench.low() <= 0 && bench.high() >= 0 && bench.high() - bench.low() < 5 ? 1 : 0, 1);
    }

    private static void atWaves() {
        value("sin(x)", 0, 0, -1, 1);
        value("sin(x)", -1, 2, -3, 3);
        value("sin(x)", -2, 1, -4, 2);
        value("cos(x)", 0, 0, ONE - 1, ONE);
        value("cos(x)", -ONE, ONE, -1, ONE);
        value("cos(x)", -ONE - 1, ONE + 1, -ONE, ONE);
        value("cos(x)", -ONE - 1, ONE, -ONE, ONE);
        value("sin(x)", 6815745, 6815745, -ONE, ONE);
        value("sin(x)", -6815745, -6815745, -ONE, ONE);
        value("cos(x)", 6815744, 6815747, -ONE, ONE);
        ShutBench bench = with("sin(x)", "cos(x)");
        for (int sign = -1; sign < 2; sign += 2) {
            CHECKS.due("sin at its end", bench.at(0, sign * 6815744, sign * 6815744), 0);
            CHECKS.due("sin of 6.5", bench.low() <= sign * 225571 && bench.high() >= sign * 225571 ? 1 : 0, 1);
            CHECKS.due("sin of 6.5, its width", bench.high() - bench.low() < 12 ? 1 : 0, 1);
            CHECKS.due("cos at its end", bench.at(1, sign * 6815744, sign * 6815744), 0);
            CHECKS.due("cos of 6.5", bench.low() <= 1024026 && bench.high() >= 1024026 ? 1 : 0, 1);
        }
    }

    // ---- 8
    private static void slope() {
        slope("x", MIN, MAX, ONE, ONE);
        slope("5", 1, 2, 0, 0);
        slopeHole("9999", 0, 0);
        slope("x+x", 3, 4, 2 * ONE, 2 * ONE);
        slope("3-x", 3, 4, -ONE, -ONE);
        slope("-x", 3, 4, -ONE, -ONE);
        slope("x*x", ONE, 2 * ONE, 2 * ONE, 4 * ONE);
        slope("x*3", 7, 8, 3 * ONE, 3 * ONE);
        slope("1/x", ONE, 2 * ONE, -ONE, -ONE / 4);
        slope("x/2", 5, 6, ONE / 2, ONE / 2);
        slopeHole("1/x", 0, 1);
        slopeHole("0/x", 1, 1000);
        slope("x^1", -5, 5, ONE, ONE);
        slope("x^2", -ONE, 2 * ONE, -2 * ONE, 4 * ONE);
        slope("x^3", -ONE, 2 * ONE, 0, 12 * ONE);
        slope("(x-x)^2", -ONE, ONE, 0, 0);
        slope("root(x)", ONE, 4 * ONE, ONE / 4, ONE / 2);
        slopeHole("root(x)", 0, ONE);
        slopeHole("root(x)", -1, ONE);
        slope("exp(x)", 0, 0, ONE, ONE + 1);
        slope("exp(2*x)", 0, 0, 2 * ONE, 2 * ONE + 2);
        slope("log(x)", ONE, 2 * ONE, ONE / 2, ONE);
        slope("sin(x)", 0, 0, ONE - 1, ONE);
        slope("cos(x)", 0, 0, -1, 1);
        slope("cos(x)", -1, 2, -3, 3);
        slopeHole("x*2000+9999", 0, 0);
        slopeHole("x*2000", 2 * ONE, 2 * ONE);
        slopeHole("(x/1048.576)^2*2000*2", ONE, 900 * ONE);
        ShutBench bench = with("x");
        CHECKS.due("a above b", bench.slope(0, 1, 0), -1);
        CHECKS.due("no CURVE", bench.slope(1, 0, 0), -1);
        CHECKS.due("no CURVE", bench.slope(-1, 0, 0), -1);
    }

    private static void slopeOfChoices() {
        slope("size(x)", 0, 5, ONE, ONE);
        slope("size(x)", 0, 0, ONE, ONE);
        slope("size(x)", -5, 0, -ONE, -ONE);
        slope("size(x)", -5, 5, -ONE, ONE);
        slope("lesser(x,1)", 0, ONE, ONE, ONE);
        slope("lesser(x,1)", 0, ONE + 1, 0, ONE);
        slope("lesser(x,1)", ONE, ONE + 1, 0, 0);
        slope("lesser(x,1)", ONE, ONE, ONE, ONE);
        slope("lesser(1,x)", ONE, ONE, 0, 0);
        slope("greater(x,1)", ONE, 2 * ONE, ONE, ONE);
        slope("greater(x,1)", ONE - 1, 2 * ONE, 0, ONE);
        slope("greater(x,1)", 0, ONE, 0, 0);
        slope("greater(1,x)", ONE, ONE, 0, 0);
        slope("lesser(x-2,root(x-1))", ONE, ONE, ONE, ONE);
        slopeHole("greater(x-2,root(x-1))", ONE, ONE);
        slopeHole("lesser(x-1,root(x-1))", ONE, ONE + 9);
    }

    // ---- 9
    private static void area() {
        ShutBench bench = with("x", "1", "size(x)", "2000*x", "x^3");
        CHECKS.due("area of 1 wide", bench.area(0, 0, 1, 200, 0), 0);
        CHECKS.dueShut("area of 1 wide", bench, 0, 1);
        CHECKS.due("1 wide is not halved", bench.count(2), 1);
        CHECKS.due("the widest", bench.area(1, -5, 1073741819, 0, 0), 0);
        CHECKS.dueShut("the widest", bench, 1073741824L, 1073741824L);
        CHECKS.due("size", bench.area(2, -ONE, ONE, 0, 0), 0);
        CHECKS.dueShut("size", bench, -ONE, ONE);
        CHECKS.due("size near enough", bench.area(2, -ONE, ONE, 9, 2 * ONE), 0);
        CHECKS.due("parts", bench.count(2), 1);
        CHECKS.due("size not near enough", bench.area(2, -ONE, ONE, 9, 2 * ONE - 1), 0);
        CHECKS.dueShut("size in two", bench, ONE, ONE);
        CHECKS.due("parts", bench.count(2), 2);
        CHECKS.due("all near", bench.area(2, -ONE, ONE, 200, Long.MAX_VALUE), 0);
        CHECKS.due("parts", bench.count(2), 1);
        CHECKS.due("a HOLE", bench.area(3, 0, 2 * ONE, 200, 0), 1);
        CHECKS.due("parts are as they were", bench.count(2), 1);
        CHECKS.dueShut("and what was told", bench, -ONE, ONE);
        CHECKS.due("no CURVE", bench.area(5, 0, 1, 0, 0), -1);
        CHECKS.due("no CURVE", bench.area(-1, 0, 1, 0, 0), -1);
        CHECKS.due("a is b", bench.area(0, 1, 1, 0, 0), -1);
        CHECKS.due("a above b", bench.area(0, 2, 1, 0, 0), -1);
        CHECKS.due("too wide", bench.area(0, -1, 1073741824, 0, 0), -1);
        CHECKS.due("all too wide", bench.area(0, MIN, MAX, 0, 0), -1);
        CHECKS.due("halvings", bench.area(0, 0, 1, -1, 0), -1);
        CHECKS.due("halvings", bench.area(0, 0, 1, 201, 0), -1);
        CHECKS.due("near", bench.area(0, 0, 1, 0, -1), -1);
        CHECKS.due("near", bench.area(0, 0, 1, 0, Long.MIN_VALUE), -1);
        CHECKS.due("200 halvings", bench.area(4, -9 * ONE, 9 * ONE, 200, 0), 0);
        CHECKS.due("parts", bench.count(2), 201);
    }

    private static void areaOfHoles() {
        ShutBench bench = with("root(x)", "1/x", "x^2");
        // The slope is a HOLE at 0: the SHUT over all, [0, 2^20], tells.
        CHECKS.due("root", bench.area(0, 0, ONE, 0, 0), 0);
        CHECKS.dueShut("root", bench, 0, ONE);
        CHECKS.due("1/x", bench.area(1, 0, ONE, 9, 0), 1);
        CHECKS.due("1/x", bench.area(1, ONE, 3 * ONE, 0, 0), 0);
        // s = -1, t = -1/9 down; e = 8/9 * 2; d = e * 2 / 8; the SHUT at 2 is 1/2.
        CHECKS.dueShut("1/x", bench, ONE - 466034, ONE + 466034);
        CHECKS.due("x^2", bench.area(2, 0, ONE, 0, 0), 0);
        CHECKS.dueShut("x^2", bench, 0, ONE / 2);
        // e is 2 * 1024 * 1024 whole ones, too much: the SHUT over all, [0, 1024^2 ..], is a HOLE itself.
        CHECKS.due("x^2", bench.area(2, 0, 1024 * ONE, 0, 0), 1);
        // e is 2 * 45 * 45 whole ones, too much: the SHUT over all tells.
        CHECKS.due("x^2", bench.area(2, 0, 45 * ONE, 0, 0), 0);
        CHECKS.dueShut("x^2", bench, 0, 45L * 45 * 45 * ONE);
        // The slope is [0, 2.1875]: e is 2147483647 over the first span, and more over the second one.
        bench = with("greater(2.1875*x,0)", "size(x)");
        CHECKS.due("e at its most", bench.area(0, -490853405, 490853405, 0, 0), 0);
        CHECKS.dueShut("e at its most", bench, -251316943243L, 251316943243L);
        CHECKS.due("e beyond", bench.area(0, -490853406, 490853406, 0, 0), 0);
        CHECKS.dueShut("e beyond", bench, 0, 1005267777361L);
        // The fourth SUM of all is wider than 2, but LOW and HIGH from time to time are not.
        CHECKS.due("near from time to time", bench.area(1, -3, 22, 6, 2), 0);
        CHECKS.dueShut("near from time to time", bench, 0, 2);
        CHECKS.due("parts", bench.count(2), 4);
    }

    // ---- 10
    private static void roots() {
        ShutBench bench = with("x", "x^2-2", "x-x", "x*x+1", "1/x", "size(x)");
        CHECKS.due("x", bench.roots(0, -5, 5, 1), 1);
        CHECKS.due("x", bench.part(0, 2), 1);
        CHECKS.due("x at an end", bench.roots(0, 0, 5, 10), 1);
        CHECKS.due("x at an end", bench.part(0, 2), 2);
        CHECKS.due("x at an end, narrower", bench.roots(0, -8, 0, 1), 2);
        CHECKS.due("end of none", bench.part(0, 1), -1);
        CHECKS.due("what of none", bench.part(0, 2), 0);
        CHECKS.due("what of the last", bench.part(1, 2), 2);
        CHECKS.due("two roots", bench.roots(1, -2 * ONE, 2 * ONE, 1), 3);
        CHECKS.due("left root", bench.part(0, 2), 1);
        CHECKS.due("between", bench.part(1, 2), 0);
        CHECKS.due("right root", bench.part(2, 2), 1);
        CHECKS.due("sixty at most", bench.roots(2, -1000, 1000, 1), 60);
        CHECKS.due("open", bench.part(59, 2), 2);
        CHECKS.due("none at all", bench.roots(3, -ONE / 2, ONE / 2, 1), 1);
        CHECKS.due("none at all", bench.part(0, 2), 0);
        CHECKS.due("a HOLE", bench.roots(4, -1, 1, 5), 1);
        CHECKS.due("a HOLE is open", bench.part(0, 2), 2);
        CHECKS.due("no slope away from 0", bench.roots(5, -4, 4, 8), 1);
        CHECKS.due("no slope away from 0", bench.part(0, 2), 2);
        CHECKS.due("the widest", bench.roots(0, MIN, MAX, 1), 1);
        CHECKS.due("no CURVE", bench.roots(6, 0, 1, 1), -1);
        CHECKS.due("no CURVE", bench.roots(-1, 0, 1, 1), -1);
        CHECKS.due("a is b", bench.roots(0, 1, 1, 1), -1);
        CHECKS.due("a above b", bench.roots(0, 1, 0, 1), -1);
        CHECKS.due("narrow", bench.roots(0, 0, 1, 0), -1);
        CHECKS.due("narrow", bench.roots(0, 0, 1, MIN), -1);
        CHECKS.due("count(4)", bench.count(4), 1);
    }

    // ---- 11
    private static void part() {
        ShutBench bench = with("x^2-2");
        CHECKS.due("roots", bench.roots(0, -2 * ONE, 2 * ONE + 2, 1), 3);
        int before = -2 * ONE;
        for (int k = 0; k < 3; k++) {
            CHECKS.due("begin " + k, bench.part(k, 0), before);
            before = bench.part(k, 1);
            CHECKS.due("width " + k, before > bench.part(k, 0) ? 1 : 0, 1);
            CHECKS.due("what " + k, bench.part(k, 3), 0);
            CHECKS.due("what " + k, bench.part(k, -1), 0);
        }
        CHECKS.due("end", before, 2 * ONE + 2);
        CHECKS.due("part(3)", bench.part(3, 1), 0);
        CHECKS.due("part(-1)", bench.part(-1, 1), 0);
        CHECKS.due("part(MAX)", bench.part(MAX, 0), 0);
        CHECKS.due("part(MIN)", bench.part(MIN, 0), 0);
        CHECKS.due("roots NONE", bench.roots(0, 0, 0, 1), -1);
        CHECKS.due("is as it was", bench.part(2, 1), 2 * ONE + 2);
    }

    // ---- 12
    private static void least() {
        ShutBench bench = with("x^2", "1/x", "x-x", "x");
        CHECKS.due("x^2", bench.least(0, -2 * ONE, 2 * ONE, 0), 0);
        CHECKS.dueShut("x^2", bench, 0, 0);
        CHECKS.due("x^2", bench.least(0, -2 * ONE, 4 * ONE, 0), 0);
        CHECKS.dueShut("x^2", bench, 0, ONE);
        // The parts are [-2, 0] and [0, 2] then: what the middle of both was is no part's middle any more.
        CHECKS.due("x^2", bench.least(0, -2 * ONE, 2 * ONE, 1), 0);
        CHECKS.dueShut("x^2", bench, 0, ONE);
        // Of two LOWS that are the same the first one along the span: [-2, -1], [-1, 0], [0, 2].
        CHECKS.due("x^2", bench.least(0, -2 * ONE, 2 * ONE, 2), 0);
        CHECKS.dueShut("x^2", bench, 0, ONE / 4);
        CHECKS.due("parts", bench.count(2), 3);
        CHECKS.due("x-x", bench.least(2, 0, 9, 200), 0);
        CHECKS.dueShut("x-x", bench, -1, 0);
        CHECKS.due("it ends at 1 wide", bench.count(2), 9);
        CHECKS.due("a is b", bench.least(3, -7, -7, 200), 0);
        CHECKS.dueShut("a is b", bench, -7, -7);
        CHECKS.due("parts", bench.count(2), 1);
        CHECKS.due("1 wide", bench.least(3, -8, -7, 200), 0);
        CHECKS.dueShut("1 wide", bench, -8, -8);
        CHECKS.due("a HOLE", bench.least(1, 0, ONE, 5), 1);
        CHECKS.due("200 halvings", bench.least(3, MIN, MAX, 200), 0);
        CHECKS.due("parts", bench.count(2), 32);
        CHECKS.dueShut("all", bench, MIN, MIN);
        CHECKS.due("no CURVE", bench.least(4, 0, 1, 0), -1);
        CHECKS.due("no CURVE", bench.least(-1, 0, 1, 0), -1);
        CHECKS.due("a above b", bench.least(0, 1, 0, 0), -1);
        CHECKS.due("halvings", bench.least(0, 0, 1, -1), -1);
        CHECKS.due("halvings", bench.least(0, 0, 1, 201), -1);
    }

    // ---- 13
    private static void greatest() {
        ShutBench bench = with("3-x^2", "1/x", "x");
        CHECKS.due("3-x^2", bench.greatest(0, -2 * ONE, 4 * ONE, 0), 0);
        CHECKS.dueShut("3-x^2", bench, 2 * ONE, 3 * ONE);
        CHECKS.due("3-x^2", bench.greatest(0, -2 * ONE, 2 * ONE, 2), 0);
        CHECKS.dueShut("3-x^2", bench, 3 * ONE - ONE / 4, 3 * ONE);
        CHECKS.due("parts", bench.count(2), 3);
        CHECKS.due("x", bench.greatest(2, -3, 9, 1), 0);
        CHECKS.dueShut("x", bench, 6, 9);
        CHECKS.due("a is b", bench.greatest(2, 5, 5, 3), 0);
        CHECKS.dueShut("a is b", bench, 5, 5);
        CHECKS.due("x without -MIN", bench.greatest(2, MIN + 1, MAX, 0), 0);
        CHECKS.dueShut("x without -MIN", bench, 0, MAX);
        CHECKS.due("- ahead of MIN is a HOLE", bench.greatest(2, MIN, 0, 0), 1);
        CHECKS.due("a HOLE", bench.greatest(1, 0, ONE, 5), 1);
        CHECKS.due("parts", bench.count(2), 1);
        CHECKS.due("no CURVE", bench.greatest(3, 0, 1, 0), -1);
        CHECKS.due("no CURVE", bench.greatest(-1, 0, 1, 0), -1);
        CHECKS.due("a above b", bench.greatest(0, 1, 0, 0), -1);
        CHECKS.due("halvings", bench.greatest(0, 0, 1, -1), -1);
        CHECKS.due("halvings", bench.greatest(0, 0, 1, 201), -1);
    }

    // ---- 14
    private static void never() {
        ShutBench bench = with("x^2", "1/x", "x-x+0.5", "x");
        CHECKS.due("above all over", bench.never(0, -2 * ONE, 2 * ONE, -1, 1), 1);
        CHECKS.due("looks", bench.count(3), 1);
        CHECKS.due("broken at the middle", bench.never(0, -2 * ONE, 2 * ONE, 0, 1), 0);
        CHECKS.dueShut("broken at the middle", bench, 0, 0);
        CHECKS.due("broken at its begin", bench.never(3, 4, 9, 9, 1), 0);
        CHECKS.dueShut("broken at its begin", bench, 4, 4);
        CHECKS.due("broken at its end", bench.never(1, ONE, 4 * ONE, ONE / 4, 1), 0);
        CHECKS.dueShut("broken at its end", bench, 4 * ONE, 4 * ONE);
        CHECKS.due("HOLES tell nothing", bench.never(1, -1, 1, -5, 400), 2);
        CHECKS.due("looks", bench.count(3), 3);
        CHECKS.due("sixteen parts", bench.never(2, 0, 4 * ONE, 0, 31), 1);
        CHECKS.due("looks", bench.count(3), 31);
        CHECKS.due("one look too few", bench.never(2, 0, 4 * ONE, 0, 30), 2);
        CHECKS.due("looks", bench.count(3), 30);
        CHECKS.due("some untold", bench.never(2, 0, 9, ONE / 2 - 1, 400), 2);
        CHECKS.due("looks", bench.count(3), 17);
        CHECKS.dueShut("is as it was", bench, 4 * ONE, 4 * ONE);
        CHECKS.due("a is b", bench.never(3, 5, 5, 4, 1), 1);
        CHECKS.due("a is b", bench.never(3, 5, 5, 5, 1), 0);
        CHECKS.due("no CURVE", bench.never(4, 0, 1, 0, 1), -1);
        CHECKS.due("no CURVE", bench.never(-1, 0, 1, 0, 1), -1);
        CHECKS.due("a above b", bench.never(0, 1, 0, 0, 1), -1);
        CHECKS.due("most", bench.never(0, 0, 1, 0, 0), -1);
        CHECKS.due("most", bench.never(0, 0, 1, 0, 401), -1);
        CHECKS.due("looks are as they were", bench.count(3), 1);
    }

    // ---- 15, 16
    private static void lowAndHigh() {
        ShutBench bench = with("x", "1/x");
        CHECKS.dueShut("ahead of any", bench, 0, 0);
        bench.at(0, 3, 7);
        CHECKS.dueShut("at", bench, 3, 7);
        bench.at(1, 0, 0);
        bench.slope(1, 0, 0);
        bench.area(1, 0, 1, 0, 0);
        bench.least(1, 0, 1, 0);
        bench.greatest(1, 0, 1, 0);
        bench.never(0, 5, 9, 1, 1);
        bench.roots(0, -5, 5, 1);
        bench.at(0, 1, 0);
        CHECKS.dueShut("what is not 0 tells nothing", bench, 3, 7);
        bench.slope(0, 3, 7);
        CHECKS.dueShut("slope", bench, ONE, ONE);
        bench.area(0, 0, 2 * ONE, 0, 0);
        CHECKS.dueShut("area", bench, 2 * ONE, 2 * ONE);
        bench.least(0, 2, 6, 0);
        CHECKS.dueShut("least", bench, 2, 4);
        bench.greatest(0, 2, 6, 0);
        CHECKS.dueShut("greatest", bench, 4, 6);
        bench.never(0, 2, 6, 3, 1);
        CHECKS.dueShut("never", bench, 2, 2);
        bench.drop();
        bench.drop();
        CHECKS.dueShut("drop", bench, 2, 2);
    }

    // ---- 17
    private static void count() {
        ShutBench bench = with("x", "x^2-2");
        bench.feed(0, 0, 0, 0, 0);
        bench.area(0, 0, 9, 0, 0);
        bench.least(0, 0, 8, 2);
        bench.never(0, 1, 8, 0, 9);
        bench.roots(1, -2 * ONE, 2 * ONE, 1);
        int[] due = {2, 20, 3, 1, 3};
        for (int what = 0; what < 5; what++) {
            CHECKS.due("count(" + what + ")", bench.count(what), due[what]);
        }
        CHECKS.due("count(5)", bench.count(5), -1);
        CHECKS.due("count(-1)", bench.count(-1), -1);
        CHECKS.due("count(MIN)", bench.count(MIN), -1);
        CHECKS.due("count(MAX)", bench.count(MAX), -1);
    }

    /** Each CURVE names the one told ahead thirty times: 30^7 of the first one, if each were measured anew. */
    private static void curvesThatNameCurves() {
        ShutBench bench = with("x*0.001");
        for (int k = 1; k < 8; k++) {
            String name = "c" + (k - 1);
            CHECKS.due("curve", Checks.tell(bench, name + times("-" + name, 29)), k);
        }
        CHECKS.due("at", bench.at(7, 0, 0), 0);
        CHECKS.dueShut("at", bench, 0, 0);
        CHECKS.due("degree", bench.about(7, 2), 1);
        CHECKS.due("area", bench.area(1, 0, ONE, 200, 0), 0);
        CHECKS.due("area of all", bench.area(7, 0, ONE, 200, 0), 1);
    }
}
