/** A method for each promise: ordinary inputs, the edges that the document names, wrong inputs. */
public final class PromisesTest extends Edges {
    private PromisesTest(Checks checks) {
        super(checks);
    }

    public static void main(String[] args) {
        Checks checks = new Checks();
        new PromisesTest(checks).ask();
        checks.close("PromisesTest");
    }

    @Override
    void ask() {
        aNewObject();
        feed();
        end();
        curveFaults();
        curveFaultsOfActs();
        curveNumbers();
        drop();
        about();
        degree();
        atNumbers();
        atSums();
        atPowers();
        atNames();
        atExpAndLog();
        atWaves();
        slope();
        slopeOfChoices();
        area();
        areaOfHoles();
        roots();
        part();
        least();
        greatest();
        never();
        lowAndHigh();
        count();
        curvesThatNameCurves();
    }

    // ---- 1
    private void aNewObject() {
        ShutBench bench = new ShutBench();
        for (int what = 0; what < 5; what++) {
            checks.due("count", bench.count(what), 0);
        }
        checks.dueShut("new", bench, 0, 0);
        checks.due("part", bench.part(0, 0), 0);
        checks.due("about", bench.about(0, 0), -1);
        checks.due("at", bench.at(0, 0, 0), -1);
        checks.due("slope", bench.slope(0, 0, 0), -1);
        checks.due("area", bench.area(0, 0, 1, 0, 0), -1);
        checks.due("roots", bench.roots(0, 0, 1, 1), -1);
        checks.due("least", bench.least(0, 0, 1, 0), -1);
        checks.due("greatest", bench.greatest(0, 0, 1, 0), -1);
        checks.due("never", bench.never(0, 0, 1, 0, 1), -1);
        checks.due("drop", bench.drop(), -1);
        checks.due("NONE", ShutBench.NONE, -1);
    }

    // ---- 2
    private void feed() {
        ShutBench bench = new ShutBench();
        for (int n = 1; n <= 10; n++) {
            checks.due("feed", bench.feed(0x20202020, 0x20202020, 0x20202020, 0x20202020, 0x20202020), 20 * n);
        }
        checks.due("feed of a full TAPE", bench.feed(0, 0, 0, 0, 0), -1);
        checks.due("count(1)", bench.count(1), 200);
        checks.due("end", bench.end(181), 181);
        checks.due("feed beyond 200", bench.feed(0, 0, 0, 0, 0), -1);
        checks.due("count(1)", bench.count(1), 181);
        checks.due("end", bench.end(180), 180);
        checks.due("feed up to 200", bench.feed(0x20202020, 0x20202020, 0x20202020, 0x20202020, 0x20202078), 200);
        checks.due("curve", bench.curve(), 0);
        checks.due("feed", bench.feed(0x312B7820, 0x20202020, 0x20202020, 0x20202020, 0x2B202D78), 20);
        checks.due("highest byte first", bench.curve(), 1);
        checks.due("about", bench.about(1, 0), 6);
        checks.due("feed of signs above 127", bench.feed(-1, -1, -1, -1, -1), 20);
        checks.due("curve", bench.curve(), -3);
    }

    // ---- 3
    private void end() {
        ShutBench bench = new ShutBench();
        checks.due("end(0)", bench.end(0), 0);
        checks.due("end(1)", bench.end(1), -1);
        checks.due("feed", bench.feed(0x782B3120, 0, 0, 0, 0), 20);
        checks.due("end(21)", bench.end(21), -1);
        checks.due("end(-1)", bench.end(-1), -1);
        checks.due("end(MIN)", bench.end(MIN), -1);
        checks.due("end(MAX)", bench.end(MAX), -1);
        checks.due("count(1)", bench.count(1), 20);
        checks.due("end(20)", bench.end(20), 20);
        checks.due("end(4)", bench.end(4), 4);
        checks.due("end(5)", bench.end(5), -1);
        checks.due("curve", bench.curve(), 0);
        checks.due("at", bench.at(0, 5, 6), 0);
        checks.dueShut("x+1", bench, ONE + 5, ONE + 6);
    }

    // ---- 4
    private void curveFaults() {
        fault("", 1, 0);
        fault("  ", 1, 2);
        fault("x x", 1, 2);
        fault("xx", 1, 0);
        fault("X", 1, 0);
        fault("x\u00e9", 1, 1);
        fault("\u0000", 1, 0);
        fault("x^10", 1, 3);
        fault("x^0", 1, 2);
        fault("x^", 1, 2);
        fault("x^  ", 1, 4);
        fault("x^-1", 1, 2);
        fault("x^2^3", 1, 3);
        fault("x^2x", 1, 3);
        fault("x^2.5", 1, 3);
        fault("--x", 1, 1);
        fault("x*--x", 1, 3);
        fault("x+", 1, 2);
        fault("*x", 1, 0);
        fault("12345", 1, 0);
        fault("2x", 1, 0);
        fault("x+.5", 1, 2);
        fault("5.", 1, 0);
        fault("1.2.3", 1, 0);
        fault("1.23456", 1, 0);
        fault("c", 1, 0);
        fault("c8", 1, 0);
        fault("c01", 1, 0);
        fault("c 0", 1, 0);
        fault("roots(x)", 1, 0);
        fault("sin x", 1, 4);
        fault("sin", 1, 3);
        fault("sin()", 1, 4);
        fault("sin(x", 1, 5);
        fault("sin(x,x)", 1, 5);
        fault("lesser(x)", 1, 8);
        fault("lesser(x,x,x)", 1, 10);
        fault("greater(,x)", 1, 8);
        fault("(x", 1, 2);
        fault("(x,x)", 1, 2);
        fault("x)", 1, 1);
        fault("()", 1, 1);
        fault("x,", 1, 1);
        fault("c0", 2, 0);
        fault("2* c7", 2, 3);
        with(" x ^ 9 ", "- ( x ) ^1*-2.5/0001.0001", "x+-x--x", "lesser ( x , greater(1,2) )", "c0^2", "exp(log(x))");
    }

    private void curveFaultsOfActs() {
        fault(times("(", 13) + "x" + times(")", 13), 3, 12);
        fault(times("sin(", 13) + "x" + times(")", 13), 3, 51);
        fault(times("(", 12) + "sin (x)" + times(")", 12), 3, 16);
        with(times("(", 12) + "x" + times(")", 12), times("cos(", 12) + "x" + times(")", 12), "(x)" + times("+(x)", 13));
        fault(times("x+", 30) + "x", 3, 60);
        fault(times("x+", 30) + "c7", 3, 60);
        fault(times("x+", 30) + "y", 1, 60);
        fault(times("x+", 30) + "-x", 3, 60);
        fault(times("x+", 30) + "sin(x)", 3, 60);
        fault(times("x+", 29) + "-x^0", 3, 60);
        fault(times("x+", 29) + "-x)", 1, 60);
        fault(times("x+", 29) + "-x*", 3, 60);
        fault(times("x+", 29) + "-x  /x", 3, 62);
        ShutBench bench = with(times("x+", 29) + "-x", times("x+", 29) + "x^2", times("x+", 27) + "lesser(x,x)^3");
        for (int k = 0; k < 3; k++) {
            checks.due("about", bench.about(k, 0), k == 2 ? 58 : 60);
        }
    }

    private void curveNumbers() {
        ShutBench bench = with("x", "1", "c0", "c1", "c2", "c3", "c4", "c5");
        checks.due("a ninth", Checks.tell(bench, "x"), -1);
        checks.due("count(1)", bench.count(1), 0);
        checks.due("drop", bench.drop(), 7);
        checks.due("c7 has gone", Checks.tell(bench, "c7"), -4);
        checks.due("the next one", Checks.tell(bench, "c6+1"), 7);
    }

    // ---- 5
    private void drop() {
        ShutBench bench = with("x", "2");
        checks.due("drop", bench.drop(), 1);
        checks.due("at", bench.at(1, 0, 0), -1);
        checks.due("at", bench.at(0, 3, 3), 0);
        checks.due("drop", bench.drop(), 0);
        checks.due("drop", bench.drop(), -1);
        checks.due("count(0)", bench.count(0), 0);
        checks.due("curve", Checks.tell(bench, "3"), 0);
        checks.due("at", bench.at(0, 0, 0), 0);
        checks.dueShut("3", bench, 3 * ONE, 3 * ONE);
    }

    // ---- 6
    private void about() {
        ShutBench bench = with("x", "-lesser(x,2)^3+c0", "c1", "size(x)", "greater(x,x)", "exp(x)/2", "c0+c5");
        int[] acts = {1, 7, 1, 2, 3, 4, 3};
        int[] smooth = {1, 0, 0, 0, 0, 1, 1};
        int[] degrees = {1, -1, -1, -1, -1, -1, -1};
        for (int k = 0; k < acts.length; k++) {
            checks.due("about(" + k + ", 0)", bench.about(k, 0), acts[k]);
            checks.due("about(" + k + ", 1)", bench.about(k, 1), smooth[k]);
            checks.due("about(" + k + ", 2)", bench.about(k, 2), degrees[k]);
            checks.due("about(" + k + ", 3)", bench.about(k, 3), -1);
            checks.due("about(" + k + ", -1)", bench.about(k, -1), -1);
        }
        checks.due("about(7, 0)", bench.about(7, 0), -1);
        checks.due("about(-1, 0)", bench.about(-1, 0), -1);
        checks.due("about(MIN, 0)", bench.about(MIN, 0), -1);
        checks.due("about(MAX, 0)", bench.about(MAX, 0), -1);
    }

    private void degree() {
        ShutBench bench = with("x^9", "c0^9", "c1^9", "c2*c2", "c2^9", "x*x-x^5", "-x^2", "9999-2.5");
        int[] degrees = {9, 81, 729, 1000, 1000, 5, 2, 0};
        for (int k = 0; k < degrees.length; k++) {
            checks.due("about(" + k + ", 2)", bench.about(k, 2), degrees[k]);
        }
        bench = with("(x+1)^3*(x-2)^2", "x/2", "x^2*(1-root(4))", "c0*x", "c1*x", "(2)^9", "x^1", "c5-c3");
        degrees = new int[] {5, -1, -1, 6, -1, 0, 1, 6};
        for (int k = 0; k < degrees.length; k++) {
            checks.due("about(" + k + ", 2)", bench.about(k, 2), degrees[k]);
        }
    }

    // ---- 7
    private void atNumbers() {
        value("x", MIN, MAX, MIN, MAX);
        value("0", 0, 0, 0, 0);
        value("0.0001", 5, 9, 104, 105);
        value("0.5", 0, 0, ONE / 2, ONE / 2);
        value("2047", 0, 0, 2146435072L, 2146435072L);
        value("2047.9999", 0, 0, 2147483543L, 2147483544L);
        value("0010.2500", 0, 0, 10747904, 10747904);
        hole("2048", 0, 0);
        hole("9999.9999", 0, 0);
        ShutBench bench = with("x");
        checks.due("a above b", bench.at(0, 1, 0), -1);
        checks.due("no CURVE", bench.at(1, 0, 0), -1);
        checks.due("no CURVE", bench.at(-1, 0, 0), -1);
        checks.due("a is b", bench.at(0, 0, 0), 0);
    }

    private void atSums() {
        value("x+1", -3, 4, ONE - 3, ONE + 4);
        hole("x+1", 0, MAX);
        value("x-x", -3, 4, -7, 7);
        hole("x-x", MIN, 0);
        value("-x", -3, 4, -4, 3);
        value("-x", MIN + 1, 0, 0, MAX);
        hole("-x", MIN, 0);
        value("x*x", 3, 3, 0, 1);
        value("x*x", -3, 5 * ONE, -15, 25 * ONE);
        value("x*-x", 3, 3, -1, 0);
        value("x*2", -1, 3, -2, 6);
        hole("x*2", 0, 1 << 30);
        hole("x*x", MIN, MAX);
        value("x*0", MIN, MAX, 0, 0);
        value("x/3", 1, 1, 0, 1);
        value("x/3", -1, -1, -1, 0);
        value("1/x", ONE / 2, 2 * ONE, ONE / 2, 2 * ONE);
        value("x/-x", 2 * ONE, 4 * ONE, -2 * ONE, -ONE / 2);
        value("x/(x-4)", -ONE, ONE, -349526, 349526);
        hole("1/x", -1, 0);
        hole("1/x", 0, 0);
        hole("1/x", 0, 5);
        hole("1/x", -5, 5);
        hole("1/x", 1, 1);
        hole("9999*0", 0, 0);
        value("x-x*2+1", 0, 0, ONE, ONE);
        value("8/2/2", 0, 0, 2 * ONE, 2 * ONE);
        value("8-2-2", 0, 0, 4 * ONE, 4 * ONE);
    }

    private void atPowers() {
        value("x^2", -1024, 2048, 0, 4);
        value("x^2", 1024, 2048, 1, 4);
        value("x^2", -2048, -1024, 1, 4);
        value("x^2", -3, -1, 0, 1);
        value("-x^2", 2 * ONE, 2 * ONE, -4 * ONE, -4 * ONE);
        value("x^3", -1024, 1024, -1, 1);
        value("x^3", -1024, -1024, -1, 0);
        value("x^3", -2 * ONE, 3 * ONE, -8 * ONE, 27 * ONE);
        value("x^1", MIN, MAX, MIN, MAX);
        value("2^9", 0, 0, 512 * ONE, 512 * ONE);
        value("x^2", 47453132, 47453132, 2147483574L, 2147483575L);
        hole("x^2", 47453133, 47453133);
        value("x^5", -1, 1, -1, 1);
        value("x^9", 2 * ONE, 2 * ONE, 512 * ONE, 512 * ONE);
        hole("x^9", 0, 3 * ONE);
    }

    private void atNames() {
        value("size(x)", 2, 3, 2, 3);
        value("size(x)", -3, -2, 2, 3);
        value("size(x)", -3, 2, 0, 3);
        value("size(x)", -3, 4, 0, 4);
        value("size(x)", MIN + 1, MAX, 0, MAX);
        hole("size(x)", MIN, MAX);
        hole("size(x)", MIN, MIN);
        value("lesser(x,1)", 5, 2 * ONE, 5, ONE);
        value("greater(x,1)", 5, 2 * ONE, ONE, 2 * ONE);
        hole("greater(x,9999)", 0, 0);
        hole("lesser(9999,x)", 0, 0);
        value("root(x)", 1, 2, 1024, 1449);
        value("root(x)", 2, 4, 1448, 2048);
        value("root(x)", 0, MAX, 0, 47453133);
        hole("root(x)", -1, 5);
    }

    private void atExpAndLog() {
        value("exp(x)", 0, 0, ONE, ONE + 1);
        value("exp(x)", MIN, MIN, 0, 1);
        value("exp(x)", MIN, 7994000, 0, 2145452911L);
        hole("exp(x)", 0, 7994001);
        hole("log(x)", 0, ONE);
        hole("log(x)", -1, -1);
        ShutBench bench = with("log(x)");
        checks.due("log(MAX)", bench.at(0, MAX, MAX), 0);
        checks.due("log(MAX)", bench.high(), 7995393);
        checks.due("log(1)", bench.at(0, 1, 1), 0);
        checks.due("log(2^-20) is told", bench.low() <= -14536350 && bench.high() >= -14536350 ? 1 : 0, 1);
        checks.due("log(2^20)", bench.at(0, ONE, ONE), 0);
        checks.due("log of 1 is 0", bench.low() <= 0 && bench.high() >= 0 && bench.high() - bench.low() < 5 ? 1 : 0, 1);
    }

    private void atWaves() {
        value("sin(x)", 0, 0, -1, 1);
        value("sin(x)", -1, 2, -3, 3);
        value("sin(x)", -2, 1, -4, 2);
        value("cos(x)", 0, 0, ONE - 1, ONE);
        value("cos(x)", -ONE, ONE, -1, ONE);
        value("cos(x)", -ONE - 1, ONE + 1, -ONE, ONE);
        value("cos(x)", -ONE - 1, ONE, -ONE, ONE);
        value("sin(x)", 6815745, 6815745, -ONE, ONE);
        value("sin(x)", -6815745, -6815745, -ONE, ONE);
        value("cos(x)", 6815744, 6815747, -ONE, ONE);
        ShutBench bench = with("sin(x)", "cos(x)");
        for (int sign = -1; sign < 2; sign += 2) {
            checks.due("sin at its end", bench.at(0, sign * 6815744, sign * 6815744), 0);
            checks.due("sin of 6.5", bench.low() <= sign * 225571 && bench.high() >= sign * 225571 ? 1 : 0, 1);
            checks.due("sin of 6.5, its width", bench.high() - bench.low() < 12 ? 1 : 0, 1);
            checks.due("cos at its end", bench.at(1, sign * 6815744, sign * 6815744), 0);
            checks.due("cos of 6.5", bench.low() <= 1024026 && bench.high() >= 1024026 ? 1 : 0, 1);
        }
    }

    // ---- 8
    private void slope() {
        slope("x", MIN, MAX, ONE, ONE);
        slope("5", 1, 2, 0, 0);
        slopeHole("9999", 0, 0);
        slope("x+x", 3, 4, 2 * ONE, 2 * ONE);
        slope("3-x", 3, 4, -ONE, -ONE);
        slope("-x", 3, 4, -ONE, -ONE);
        slope("x*x", ONE, 2 * ONE, 2 * ONE, 4 * ONE);
        slope("x*3", 7, 8, 3 * ONE, 3 * ONE);
        slope("1/x", ONE, 2 * ONE, -ONE, -ONE / 4);
        slope("x/2", 5, 6, ONE / 2, ONE / 2);
        slopeHole("1/x", 0, 1);
        slopeHole("0/x", 1, 1000);
        slope("x^1", -5, 5, ONE, ONE);
        slope("x^2", -ONE, 2 * ONE, -2 * ONE, 4 * ONE);
        slope("x^3", -ONE, 2 * ONE, 0, 12 * ONE);
        slope("(x-x)^2", -ONE, ONE, 0, 0);
        slope("root(x)", ONE, 4 * ONE, ONE / 4, ONE / 2);
        slopeHole("root(x)", 0, ONE);
        slopeHole("root(x)", -1, ONE);
        slope("exp(x)", 0, 0, ONE, ONE + 1);
        slope("exp(2*x)", 0, 0, 2 * ONE, 2 * ONE + 2);
        slope("log(x)", ONE, 2 * ONE, ONE / 2, ONE);
        slope("sin(x)", 0, 0, ONE - 1, ONE);
        slope("cos(x)", 0, 0, -1, 1);
        slope("cos(x)", -1, 2, -3, 3);
        slopeHole("x*2000+9999", 0, 0);
        slopeHole("x*2000", 2 * ONE, 2 * ONE);
        slopeHole("(x/1048.576)^2*2000*2", ONE, 900 * ONE);
        ShutBench bench = with("x");
        checks.due("a above b", bench.slope(0, 1, 0), -1);
        checks.due("no CURVE", bench.slope(1, 0, 0), -1);
        checks.due("no CURVE", bench.slope(-1, 0, 0), -1);
    }

    private void slopeOfChoices() {
        slope("size(x)", 0, 5, ONE, ONE);
        slope("size(x)", 0, 0, ONE, ONE);
        slope("size(x)", -5, 0, -ONE, -ONE);
        slope("size(x)", -5, 5, -ONE, ONE);
        slope("lesser(x,1)", 0, ONE, ONE, ONE);
        slope("lesser(x,1)", 0, ONE + 1, 0, ONE);
        slope("lesser(x,1)", ONE, ONE + 1, 0, 0);
        slope("lesser(x,1)", ONE, ONE, ONE, ONE);
        slope("lesser(1,x)", ONE, ONE, 0, 0);
        slope("greater(x,1)", ONE, 2 * ONE, ONE, ONE);
        slope("greater(x,1)", ONE - 1, 2 * ONE, 0, ONE);
        slope("greater(x,1)", 0, ONE, 0, 0);
        slope("greater(1,x)", ONE, ONE, 0, 0);
        slope("lesser(x-2,root(x-1))", ONE, ONE, ONE, ONE);
        slopeHole("greater(x-2,root(x-1))", ONE, ONE);
        slopeHole("lesser(x-1,root(x-1))", ONE, ONE + 9);
    }

    // ---- 9
    private void area() {
        ShutBench bench = with("x", "1", "size(x)", "2000*x", "x^3");
        checks.due("area of 1 wide", bench.area(0, 0, 1, 200, 0), 0);
        checks.dueShut("area of 1 wide", bench, 0, 1);
        checks.due("1 wide is not halved", bench.count(2), 1);
        checks.due("the widest", bench.area(1, -5, 1073741819, 0, 0), 0);
        checks.dueShut("the widest", bench, 1073741824L, 1073741824L);
        checks.due("size", bench.area(2, -ONE, ONE, 0, 0), 0);
        checks.dueShut("size", bench, -ONE, ONE);
        checks.due("size near enough", bench.area(2, -ONE, ONE, 9, 2 * ONE), 0);
        checks.due("parts", bench.count(2), 1);
        checks.due("size not near enough", bench.area(2, -ONE, ONE, 9, 2 * ONE - 1), 0);
        checks.dueShut("size in two", bench, ONE, ONE);
        checks.due("parts", bench.count(2), 2);
        checks.due("all near", bench.area(2, -ONE, ONE, 200, Long.MAX_VALUE), 0);
        checks.due("parts", bench.count(2), 1);
        checks.due("a HOLE", bench.area(3, 0, 2 * ONE, 200, 0), 1);
        checks.due("parts are as they were", bench.count(2), 1);
        checks.dueShut("and what was told", bench, -ONE, ONE);
        checks.due("no CURVE", bench.area(5, 0, 1, 0, 0), -1);
        checks.due("no CURVE", bench.area(-1, 0, 1, 0, 0), -1);
        checks.due("a is b", bench.area(0, 1, 1, 0, 0), -1);
        checks.due("a above b", bench.area(0, 2, 1, 0, 0), -1);
        checks.due("too wide", bench.area(0, -1, 1073741824, 0, 0), -1);
        checks.due("all too wide", bench.area(0, MIN, MAX, 0, 0), -1);
        checks.due("halvings", bench.area(0, 0, 1, -1, 0), -1);
        checks.due("halvings", bench.area(0, 0, 1, 201, 0), -1);
        checks.due("near", bench.area(0, 0, 1, 0, -1), -1);
        checks.due("near", bench.area(0, 0, 1, 0, Long.MIN_VALUE), -1);
        checks.due("200 halvings", bench.area(4, -9 * ONE, 9 * ONE, 200, 0), 0);
        checks.due("parts", bench.count(2), 201);
    }

    private void areaOfHoles() {
        ShutBench bench = with("root(x)", "1/x", "x^2");
        // The slope is a HOLE at 0: the SHUT over all, [0, 2^20], tells.
        checks.due("root", bench.area(0, 0, ONE, 0, 0), 0);
        checks.dueShut("root", bench, 0, ONE);
        checks.due("1/x", bench.area(1, 0, ONE, 9, 0), 1);
        checks.due("1/x", bench.area(1, ONE, 3 * ONE, 0, 0), 0);
        // s = -1, t = -1/9 down; e = 8/9 * 2; d = e * 2 / 8; the SHUT at 2 is 1/2.
        checks.dueShut("1/x", bench, ONE - 466034, ONE + 466034);
        checks.due("x^2", bench.area(2, 0, ONE, 0, 0), 0);
        checks.dueShut("x^2", bench, 0, ONE / 2);
        // e is 2 * 1024 * 1024 whole ones, too much: the SHUT over all, [0, 1024^2 ..], is a HOLE itself.
        checks.due("x^2", bench.area(2, 0, 1024 * ONE, 0, 0), 1);
        // e is 2 * 45 * 45 whole ones, too much: the SHUT over all tells.
        checks.due("x^2", bench.area(2, 0, 45 * ONE, 0, 0), 0);
        checks.dueShut("x^2", bench, 0, 45L * 45 * 45 * ONE);
        // The slope is [0, 2.1875]: e is 2147483647 over the first span, and more over the second one.
        bench = with("greater(2.1875*x,0)", "size(x)");
        checks.due("e at its most", bench.area(0, -490853405, 490853405, 0, 0), 0);
        checks.dueShut("e at its most", bench, -251316943243L, 251316943243L);
        checks.due("e beyond", bench.area(0, -490853406, 490853406, 0, 0), 0);
        checks.dueShut("e beyond", bench, 0, 1005267777361L);
        // The fourth SUM of all is wider than 2, but LOW and HIGH from time to time are not.
        checks.due("near from time to time", bench.area(1, -3, 22, 6, 2), 0);
        checks.dueShut("near from time to time", bench, 0, 2);
        checks.due("parts", bench.count(2), 4);
    }

    // ---- 10
    private void roots() {
        ShutBench bench = with("x", "x^2-2", "x-x", "x*x+1", "1/x", "size(x)");
        checks.due("x", bench.roots(0, -5, 5, 1), 1);
        checks.due("x", bench.part(0, 2), 1);
        checks.due("x at an end", bench.roots(0, 0, 5, 10), 1);
        checks.due("x at an end", bench.part(0, 2), 2);
        checks.due("x at an end, narrower", bench.roots(0, -8, 0, 1), 2);
        checks.due("end of none", bench.part(0, 1), -1);
        checks.due("what of none", bench.part(0, 2), 0);
        checks.due("what of the last", bench.part(1, 2), 2);
        checks.due("two roots", bench.roots(1, -2 * ONE, 2 * ONE, 1), 3);
        checks.due("left root", bench.part(0, 2), 1);
        checks.due("between", bench.part(1, 2), 0);
        checks.due("right root", bench.part(2, 2), 1);
        checks.due("sixty at most", bench.roots(2, -1000, 1000, 1), 60);
        checks.due("open", bench.part(59, 2), 2);
        checks.due("none at all", bench.roots(3, -ONE / 2, ONE / 2, 1), 1);
        checks.due("none at all", bench.part(0, 2), 0);
        checks.due("a HOLE", bench.roots(4, -1, 1, 5), 1);
        checks.due("a HOLE is open", bench.part(0, 2), 2);
        checks.due("no slope away from 0", bench.roots(5, -4, 4, 8), 1);
        checks.due("no slope away from 0", bench.part(0, 2), 2);
        checks.due("the widest", bench.roots(0, MIN, MAX, 1), 1);
        checks.due("no CURVE", bench.roots(6, 0, 1, 1), -1);
        checks.due("no CURVE", bench.roots(-1, 0, 1, 1), -1);
        checks.due("a is b", bench.roots(0, 1, 1, 1), -1);
        checks.due("a above b", bench.roots(0, 1, 0, 1), -1);
        checks.due("narrow", bench.roots(0, 0, 1, 0), -1);
        checks.due("narrow", bench.roots(0, 0, 1, MIN), -1);
        checks.due("count(4)", bench.count(4), 1);
    }

    // ---- 11
    private void part() {
        ShutBench bench = with("x^2-2");
        checks.due("roots", bench.roots(0, -2 * ONE, 2 * ONE + 2, 1), 3);
        int before = -2 * ONE;
        for (int k = 0; k < 3; k++) {
            checks.due("begin " + k, bench.part(k, 0), before);
            before = bench.part(k, 1);
            checks.due("width " + k, before > bench.part(k, 0) ? 1 : 0, 1);
            checks.due("what " + k, bench.part(k, 3), 0);
            checks.due("what " + k, bench.part(k, -1), 0);
        }
        checks.due("end", before, 2 * ONE + 2);
        checks.due("part(3)", bench.part(3, 1), 0);
        checks.due("part(-1)", bench.part(-1, 1), 0);
        checks.due("part(MAX)", bench.part(MAX, 0), 0);
        checks.due("part(MIN)", bench.part(MIN, 0), 0);
        checks.due("roots NONE", bench.roots(0, 0, 0, 1), -1);
        checks.due("is as it was", bench.part(2, 1), 2 * ONE + 2);
    }

    // ---- 12
    private void least() {
        ShutBench bench = with("x^2", "1/x", "x-x", "x");
        checks.due("x^2", bench.least(0, -2 * ONE, 2 * ONE, 0), 0);
        checks.dueShut("x^2", bench, 0, 0);
        checks.due("x^2", bench.least(0, -2 * ONE, 4 * ONE, 0), 0);
        checks.dueShut("x^2", bench, 0, ONE);
        // The parts are [-2, 0] and [0, 2] then: what the middle of both was is no part's middle any more.
        checks.due("x^2", bench.least(0, -2 * ONE, 2 * ONE, 1), 0);
        checks.dueShut("x^2", bench, 0, ONE);
        // Of two LOWS that are the same the first one along the span: [-2, -1], [-1, 0], [0, 2].
        checks.due("x^2", bench.least(0, -2 * ONE, 2 * ONE, 2), 0);
        checks.dueShut("x^2", bench, 0, ONE / 4);
        checks.due("parts", bench.count(2), 3);
        checks.due("x-x", bench.least(2, 0, 9, 200), 0);
        checks.dueShut("x-x", bench, -1, 0);
        checks.due("it ends at 1 wide", bench.count(2), 9);
        checks.due("a is b", bench.least(3, -7, -7, 200), 0);
        checks.dueShut("a is b", bench, -7, -7);
        checks.due("parts", bench.count(2), 1);
        checks.due("1 wide", bench.least(3, -8, -7, 200), 0);
        checks.dueShut("1 wide", bench, -8, -8);
        checks.due("a HOLE", bench.least(1, 0, ONE, 5), 1);
        checks.due("200 halvings", bench.least(3, MIN, MAX, 200), 0);
        checks.due("parts", bench.count(2), 32);
        checks.dueShut("all", bench, MIN, MIN);
        checks.due("no CURVE", bench.least(4, 0, 1, 0), -1);
        checks.due("no CURVE", bench.least(-1, 0, 1, 0), -1);
        checks.due("a above b", bench.least(0, 1, 0, 0), -1);
        checks.due("halvings", bench.least(0, 0, 1, -1), -1);
        checks.due("halvings", bench.least(0, 0, 1, 201), -1);
    }

    // ---- 13
    private void greatest() {
        ShutBench bench = with("3-x^2", "1/x", "x");
        checks.due("3-x^2", bench.greatest(0, -2 * ONE, 4 * ONE, 0), 0);
        checks.dueShut("3-x^2", bench, 2 * ONE, 3 * ONE);
        checks.due("3-x^2", bench.greatest(0, -2 * ONE, 2 * ONE, 2), 0);
        checks.dueShut("3-x^2", bench, 3 * ONE - ONE / 4, 3 * ONE);
        checks.due("parts", bench.count(2), 3);
        checks.due("x", bench.greatest(2, -3, 9, 1), 0);
        checks.dueShut("x", bench, 6, 9);
        checks.due("a is b", bench.greatest(2, 5, 5, 3), 0);
        checks.dueShut("a is b", bench, 5, 5);
        checks.due("x without -MIN", bench.greatest(2, MIN + 1, MAX, 0), 0);
        checks.dueShut("x without -MIN", bench, 0, MAX);
        checks.due("- ahead of MIN is a HOLE", bench.greatest(2, MIN, 0, 0), 1);
        checks.due("a HOLE", bench.greatest(1, 0, ONE, 5), 1);
        checks.due("parts", bench.count(2), 1);
        checks.due("no CURVE", bench.greatest(3, 0, 1, 0), -1);
        checks.due("no CURVE", bench.greatest(-1, 0, 1, 0), -1);
        checks.due("a above b", bench.greatest(0, 1, 0, 0), -1);
        checks.due("halvings", bench.greatest(0, 0, 1, -1), -1);
        checks.due("halvings", bench.greatest(0, 0, 1, 201), -1);
    }

    // ---- 14
    private void never() {
        ShutBench bench = with("x^2", "1/x", "x-x+0.5", "x");
        checks.due("above all over", bench.never(0, -2 * ONE, 2 * ONE, -1, 1), 1);
        checks.due("looks", bench.count(3), 1);
        checks.due("broken at the middle", bench.never(0, -2 * ONE, 2 * ONE, 0, 1), 0);
        checks.dueShut("broken at the middle", bench, 0, 0);
        checks.due("broken at its begin", bench.never(3, 4, 9, 9, 1), 0);
        checks.dueShut("broken at its begin", bench, 4, 4);
        checks.due("broken at its end", bench.never(1, ONE, 4 * ONE, ONE / 4, 1), 0);
        checks.dueShut("broken at its end", bench, 4 * ONE, 4 * ONE);
        checks.due("HOLES tell nothing", bench.never(1, -1, 1, -5, 400), 2);
        checks.due("looks", bench.count(3), 3);
        checks.due("sixteen parts", bench.never(2, 0, 4 * ONE, 0, 31), 1);
        checks.due("looks", bench.count(3), 31);
        checks.due("one look too few", bench.never(2, 0, 4 * ONE, 0, 30), 2);
        checks.due("looks", bench.count(3), 30);
        checks.due("some untold", bench.never(2, 0, 9, ONE / 2 - 1, 400), 2);
        checks.due("looks", bench.count(3), 17);
        checks.dueShut("is as it was", bench, 4 * ONE, 4 * ONE);
        checks.due("a is b", bench.never(3, 5, 5, 4, 1), 1);
        checks.due("a is b", bench.never(3, 5, 5, 5, 1), 0);
        checks.due("no CURVE", bench.never(4, 0, 1, 0, 1), -1);
        checks.due("no CURVE", bench.never(-1, 0, 1, 0, 1), -1);
        checks.due("a above b", bench.never(0, 1, 0, 0, 1), -1);
        checks.due("most", bench.never(0, 0, 1, 0, 0), -1);
        checks.due("most", bench.never(0, 0, 1, 0, 401), -1);
        checks.due("looks are as they were", bench.count(3), 1);
    }

    // ---- 15, 16
    private void lowAndHigh() {
        ShutBench bench = with("x", "1/x");
        checks.dueShut("ahead of any", bench, 0, 0);
        bench.at(0, 3, 7);
        checks.dueShut("at", bench, 3, 7);
        bench.at(1, 0, 0);
        bench.slope(1, 0, 0);
        bench.area(1, 0, 1, 0, 0);
        bench.least(1, 0, 1, 0);
        bench.greatest(1, 0, 1, 0);
        bench.never(0, 5, 9, 1, 1);
        bench.roots(0, -5, 5, 1);
        bench.at(0, 1, 0);
        checks.dueShut("what is not 0 tells nothing", bench, 3, 7);
        bench.slope(0, 3, 7);
        checks.dueShut("slope", bench, ONE, ONE);
        bench.area(0, 0, 2 * ONE, 0, 0);
        checks.dueShut("area", bench, 2 * ONE, 2 * ONE);
        bench.least(0, 2, 6, 0);
        checks.dueShut("least", bench, 2, 4);
        bench.greatest(0, 2, 6, 0);
        checks.dueShut("greatest", bench, 4, 6);
        bench.never(0, 2, 6, 3, 1);
        checks.dueShut("never", bench, 2, 2);
        bench.drop();
        bench.drop();
        checks.dueShut("drop", bench, 2, 2);
    }

    // ---- 17
    private void count() {
        ShutBench bench = with("x", "x^2-2");
        bench.feed(0, 0, 0, 0, 0);
        bench.area(0, 0, 9, 0, 0);
        bench.least(0, 0, 8, 2);
        bench.never(0, 1, 8, 0, 9);
        bench.roots(1, -2 * ONE, 2 * ONE, 1);
        int[] due = {2, 20, 3, 1, 3};
        for (int what = 0; what < 5; what++) {
            checks.due("count(" + what + ")", bench.count(what), due[what]);
        }
        checks.due("count(5)", bench.count(5), -1);
        checks.due("count(-1)", bench.count(-1), -1);
        checks.due("count(MIN)", bench.count(MIN), -1);
        checks.due("count(MAX)", bench.count(MAX), -1);
    }

    /** Each CURVE names the one told ahead thirty times: 30^7 of the first one, if each were measured anew. */
    private void curvesThatNameCurves() {
        ShutBench bench = with("x*0.001");
        for (int k = 1; k < 8; k++) {
            String name = "c" + (k - 1);
            checks.due("curve", Checks.tell(bench, name + times("-" + name, 29)), k);
        }
        checks.due("at", bench.at(7, 0, 0), 0);
        checks.dueShut("at", bench, 0, 0);
        checks.due("degree", bench.about(7, 2), 1);
        checks.due("area", bench.area(1, 0, ONE, 200, 0), 0);
        checks.due("area of all", bench.area(7, 0, ONE, 200, 0), 1);
    }
}
