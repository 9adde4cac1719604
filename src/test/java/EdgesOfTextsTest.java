/** The edges of NUMBERS, TEXTS and FAULTS, and of promises 1 to 6. */
public final class EdgesOfTextsTest extends Edges {
    /** So many ACTS, behind which a PART is due. */
    private static final String ACTS_58 = times("x+", 29);
    private static final String ACTS_59 = ACTS_58 + "-";
    private static final String ACTS_60 = times("x+", 30);
    /** A whole SUM of 60 ACTS. */
    private static final String SUM_60 = ACTS_58 + "-x";

    EdgesOfTextsTest(Checks checks) {
        super(checks);
    }

    public static void main(String[] args) {
        Checks checks = new Checks();
        new EdgesOfTextsTest(checks).ask();
        checks.close("EdgesOfTextsTest");
    }

    @Override
    void ask() {
        rawNumbers();
        holesTellNothing();
        tapeOfTexts();
        blanks();
        sumsTermsPowers();
        digits();
        numbers();
        names();
        namedCurves();
        words();
        faultsInOrder();
        faultsOfCurves();
        lastActs();
        sixtyFirstActs();
        bracketsWithin();
        aNewObject();
        feed();
        end();
        curve();
        drop();
        about();
        degrees();
    }

    // ---- I, NUMBERS and SHUTS

    private void rawNumbers() {
        says("RAW: -2147483648 to 2147483647");
        value("x", MIN, MAX, MIN, MAX);
        value("x+1", MAX - ONE, MAX - ONE, MAX, MAX);
        value("x-1", MIN + ONE, MIN + ONE, MIN, MIN);
        says("Where one would be beyond these there is a HOLE");
        hole("x+1", MAX - ONE + 1, MAX - ONE + 1);
        hole("x-1", MIN + ONE - 1, MIN + ONE - 1);
        says("one: LOW alone, HIGH alone");
        hole("x-1", MIN + ONE - 1, 0);
        hole("x+1", 0, MAX - ONE + 1);
        says("LOW not above HIGH");
        value("x", 7, 7, 7, 7);
        says("1048576 (2^20) for each whole one");
        value("1", 0, 0, ONE, ONE);
        value("2047", 0, 0, 2047L * ONE, 2047L * ONE);
        says("down, up: to the next whole RAW not above, not below");
        value("x/3", 1, 1, 0, 1);
        value("x/3", -1, -1, -1, 0);
        value("x/3", 3, 3, 1, 1);
        value("x/3", -3, -3, -1, -1);
        value("x/3", -4, 4, -2, 2);
    }

    private void holesTellNothing() {
        says("a HOLE: nothing is told");
        ShutBench bench = with("x", "x+1", "9999", "1/x");
        valueOf(bench, 0, 3, 7, 3, 7);
        checks.due("at", bench.at(1, MAX, MAX), 1);
        checks.dueShut("at", bench, 3, 7);
        checks.due("at", bench.at(2, 0, 0), 1);
        checks.dueShut("at", bench, 3, 7);
        checks.due("slope", bench.slope(3, 0, 0), 1);
        checks.dueShut("slope", bench, 3, 7);
    }

    // ---- I, TEXTS

    private void tapeOfTexts() {
        says("a CURVE is told on the TAPE (200 bytes at most)");
        told("x" + times(" ", 199), times(" ", 199) + "x", "1" + times(" ", 197) + "+x");
        valueOf(with("2" + times(" ", 197) + "*x"), 0, 5, 5, 10, 10);
        fault("x" + times(" ", 198) + "x", 1, 199);
        fault(times("(", 12) + times(" ", 187) + "(", 3, 199);
    }

    private void blanks() {
        says("blanks (32) anywhere between its signs and WORDS");
        told(" x", "x ", "  x  ", "x + 1", "x +1", "x+ 1", "- x", "x ^2", "x^ 2", "x ^ 2 ", "( x )", "sin (x)",
                "sin( x )", "lesser ( x , 1 ) ", " - ( x ) ^ 3 * size ( - x ) / 2 - greater ( 1 , x ) ");
        says("blanks (32): no other byte is one");
        for (int sign : new int[] {0, 9, 10, 13, 31, 33, 160, 255}) {
            fault((char) sign + "x", 1, 0);
            fault("x" + (char) sign, 1, 1);
            fault("x" + (char) sign + "+1", 1, 1);
        }
        says("between its signs and WORDS: in none of them");
        fault("1 2", 1, 2);
        fault("1 .5", 1, 2);
        fault("1. 5", 1, 0);
        fault("1.5 5", 1, 4);
        fault("si n(x)", 1, 0);
        fault("lesse r(x,1)", 1, 0);
        fault("x ^ 1 2", 1, 6);
        faultOf(with("x"), "c 0", 1, 0);
    }

    private void sumsTermsPowers() {
        says("SUM: TERM { (+ or -) TERM }");
        value("8-2-2", 0, 0, 4 * ONE, 4 * ONE);
        value("8-2+2", 0, 0, 8 * ONE, 8 * ONE);
        fault("", 1, 0);
        fault("+x", 1, 0);
        fault("x+", 1, 2);
        fault("x++x", 1, 2);
        fault("x-+x", 1, 2);
        fault("x x", 1, 2);
        fault("x(x)", 1, 1);
        fault("(x)x", 1, 3);
        fault("(x)(x)", 1, 3);
        fault("x,", 1, 1);
        fault("x)", 1, 1);
        says("TERM: POWER { (* or /) POWER }");
        value("8/2/2", 0, 0, 2 * ONE, 2 * ONE);
        value("8/2*2", 0, 0, 8 * ONE, 8 * ONE);
        value("2+3*4", 0, 0, 14 * ONE, 14 * ONE);
        value("20-8/2", 0, 0, 16 * ONE, 16 * ONE);
        fault("*x", 1, 0);
        fault("x*", 1, 2);
        fault("x*/x", 1, 2);
        fault("x/*x", 1, 2);
        says("POWER: [-] PART [^ DIGIT] (- of all that)");
        value("-x^2", 2 * ONE, 2 * ONE, -4 * ONE, -4 * ONE);
        value("(-x)^2", 2 * ONE, 2 * ONE, 4 * ONE, 4 * ONE);
        value("2*3^2", 0, 0, 18 * ONE, 18 * ONE);
        value("2*-x^2", 2 * ONE, 2 * ONE, -8 * ONE, -8 * ONE);
        value("8/-x", 2 * ONE, 2 * ONE, -4 * ONE, -4 * ONE);
        value("8--x", 2 * ONE, 2 * ONE, 10 * ONE, 10 * ONE);
        value("8+-x", 2 * ONE, 2 * ONE, 6 * ONE, 6 * ONE);
        fault("-", 1, 1);
        fault("--x", 1, 1);
        fault("x---x", 1, 3);
        fault("-+x", 1, 1);
        fault("^2", 1, 0);
        fault("-^2", 1, 1);
        fault("x^2^2", 1, 3);
        fault("x^-2", 1, 2);
    }

    private void digits() {
        says("DIGIT 1 to 9");
        told("x^1", "x^2", "x^8", "x^9");
        value("2^9", 0, 0, 512 * ONE, 512 * ONE);
        value("x^1", -7, 8, -7, 8);
        fault("x^0", 1, 2);
        fault("x^:", 1, 2);
        fault("x^/", 1, 2);
        fault("x^", 1, 2);
        fault("x^x", 1, 2);
        fault("x^(2)", 1, 2);
        fault("x^.5", 1, 2);
        says("the DIGIT of a ^ is one byte, no WORD");
        fault("x^10", 1, 3);
        fault("x^23", 1, 3);
        fault("x^2x", 1, 3);
        fault("x^2.5", 1, 3);
        fault("x^2sin(x)", 1, 3);
        fault("x^01", 1, 2);
        told("x^2+1", "x^2*x", "(x^2)", "lesser(x^2,x^3)");
    }

    private void numbers() {
        says("a NUMBER (1 to 4 digits, perhaps . and 1 to 4 more, one WORD)");
        told("0", "9", "12", "123", "1234", "9999", "0000", "1.2", "1.23", "1.234", "1.2345", "1234.5678", "0.0000");
        fault("12345", 1, 0);
        fault("00001", 1, 0);
        fault("12345.6", 1, 0);
        fault("1.23456", 1, 0);
        fault("1.", 1, 0);
        fault("1234.", 1, 0);
        fault(".5", 1, 0);
        fault(".", 1, 0);
        fault("1..2", 1, 0);
        fault("1.2.3", 1, 0);
        fault("1.2.", 1, 0);
        fault("1e3", 1, 0);
        fault("1.x", 1, 0);
        fault("1.2x", 1, 0);
        fault("x+12345", 1, 2);
        fault("1,5", 1, 1);
        says("NUMBERS: the RAW one down is LOW, up HIGH");
        value("0.0001", 0, 0, 104, 105);
        value("0.0625", 0, 0, 65536, 65536);
        value("0.9999", 0, 0, 1048471, 1048472);
        value("0.5", 0, 0, ONE / 2, ONE / 2);
        value("0010.2500", 0, 0, 10747904, 10747904);
        value("0", 0, 0, 0, 0);
        value("2047.9999", 0, 0, 2147483543L, 2147483544L);
        says("NUMBERS: where one would be beyond there is a HOLE");
        hole("2048", 0, 0);
        hole("2048.0001", 0, 0);
        hole("9999.9999", 0, 0);
    }

    private void names() {
        says("root, exp, log, sin, cos or size, ( SUM )");
        for (String name : new String[] {"root", "exp", "log", "sin", "cos", "size"}) {
            int n = name.length();
            told(name + "(x)", name + "(x+1-2)", "-" + name + "(x)^2", name + "((x))");
            fault(name, 1, n);
            fault(name + "x", 1, 0);
            fault(name + " x", 1, n + 1);
            fault(name + "^2", 1, n);
            fault(name + "(", 1, n + 1);
            fault(name + "()", 1, n + 1);
            fault(name + "(x", 1, n + 2);
            fault(name + "(x,x)", 1, n + 2);
            fault(name + "(x)(x)", 1, n + 3);
            fault(name.toUpperCase() + "(x)", 1, 0);
            fault(name.substring(1) + "(x)", 1, 0);
            fault(name.substring(0, n - 1) + "(x)", 1, 0);
        }
        says("lesser or greater, ( SUM , SUM )");
        for (String name : new String[] {"lesser", "greater"}) {
            int n = name.length();
            told(name + "(x,x)", name + "(x+1,2-x)", "-" + name + "(x,1)^2", name + "((x),(1))");
            fault(name, 1, n);
            fault(name + " x", 1, n + 1);
            fault(name + "(", 1, n + 1);
            fault(name + "()", 1, n + 1);
            fault(name + "(,x)", 1, n + 1);
            fault(name + "(x", 1, n + 2);
            fault(name + "(x)", 1, n + 2);
            fault(name + "(x 1)", 1, n + 3);
            fault(name + "(x (1))", 1, n + 3);
            fault(name + "(x;1)", 1, n + 2);
            fault(name + "(x,", 1, n + 3);
            fault(name + "(x,)", 1, n + 3);
            fault(name + "(x,x", 1, n + 4);
            fault(name + "(x,x,x)", 1, n + 4);
            fault(name.toUpperCase() + "(x,x)", 1, 0);
            fault(name.substring(1) + "(x,x)", 1, 0);
        }
        says("( SUM )");
        told("(x)", "((x))", "(x+1)*(x)", "(-x)", "(x)^2");
        fault("(", 1, 1);
        fault("()", 1, 1);
        fault("(x", 1, 2);
        fault("(x,x)", 1, 2);
        fault("(x))", 1, 3);
        fault("[x]", 1, 0);
    }

    private void namedCurves() {
        says("c and a DIGIT 0 to 7 (one WORD): a CURVE told ahead");
        ShutBench bench = with("x", "1", "2", "3", "4", "5", "6", "c6+c0");
        valueOf(bench, 7, 5, 9, 6 * ONE + 5, 6 * ONE + 9);
        checks.due("drop", bench.drop(), 7);
        faultOf(bench, "c8", 1, 0);
        faultOf(bench, "c9", 1, 0);
        faultOf(bench, "c/", 1, 0);
        faultOf(bench, "c:", 1, 0);
        faultOf(bench, "c.", 1, 0);
        faultOf(bench, "c", 1, 0);
        faultOf(bench, "cx", 1, 0);
        faultOf(bench, "C0", 1, 0);
        faultOf(bench, "0c", 1, 0);
        says("one WORD");
        faultOf(bench, "c00", 1, 0);
        faultOf(bench, "c0.", 1, 0);
        faultOf(bench, "c0x", 1, 0);
        faultOf(bench, "c0(x)", 1, 2);
        checks.due("c6", Checks.tell(bench, "-c6^2"), 7);
        says("a CURVE told ahead: its SHUT, of CURVES that it names too");
        bench = with("x", "3*x", "c1", "c2+c0", "c3", "c4*1");
        valueOf(bench, 2, 5, 6, 15, 18);
        valueOf(bench, 3, ONE, ONE, 4 * ONE, 4 * ONE);
        valueOf(bench, 0, 7, 7, 7, 7);
        valueOf(bench, 5, -2 * ONE, 2 * ONE, -8 * ONE, 8 * ONE);
    }

    private void words() {
        says("A WORD goes as far as letters, digits and . go on");
        for (char sign : "azAZ09.".toCharArray()) {
            fault("x" + sign, 1, 0);
            fault("sin" + sign + "(x)", 1, 0);
        }
        says("letters, digits and . alone");
        for (char sign : "@[`{:,_!".toCharArray()) {
            fault("x" + sign, 1, 1);
            fault("sin" + sign + "(x)", 1, 3);
        }
        fault("sin/(x)", 1, 3);
        for (int sign : new int[] {127, 128, 181, 192, 223, 233, 255}) {
            fault("x" + (char) sign, 1, 1);
            fault("" + (char) sign, 1, 0);
        }
        says("1 it can't stand there (in a WORD that is none of these: at its first byte)");
        fault("y", 1, 0);
        fault("xx", 1, 0);
        fault("2x", 1, 0);
        fault("x*rooot(x)", 1, 2);
        fault("x-  sinh(x)", 1, 4);
        says("1 it can't stand there: a WORD that is one of these, at its first byte");
        fault("x sin(x)", 1, 2);
        fault("(x 12.5)", 1, 3);
        fault("2 x", 1, 2);
        says("the end: behind the last byte");
        fault("   ", 1, 3);
        fault("x+   ", 1, 5);
        fault("(x ", 1, 3);
        fault("sin ", 1, 4);
        fault("x^ ", 1, 3);
        fault("lesser(x, ", 1, 10);
    }

    // ---- I, FAULTS

    private void faultsInOrder() {
        says("FAULTS, the first byte at which something can't be as told");
        fault("c5+y", 2, 0);
        fault("y+c5", 1, 0);
        fault("x+c1+)", 2, 2);
        fault("(x+)*c1", 1, 3);
        fault(times("(", 13) + "y", 3, 12);
        fault(times("(", 12) + "y(", 1, 12);
        fault(times("(", 12) + "c4(", 2, 12);
        fault("y" + times("(", 13), 1, 0);
        fault(ACTS_58 + "c0+x+x", 2, 58);
        fault(ACTS_58 + "x)+x+x", 1, 59);
    }

    private void faultsOfCurves() {
        says("2 a CURVE that there is not (at its c)");
        fault("c0", 2, 0);
        fault("c7", 2, 0);
        fault("2*-(c0", 2, 4);
        ShutBench bench = with("x", "2");
        faultOf(bench, "c0+c2", 2, 3);
        faultOf(bench, "c1+c1+  c7", 2, 8);
        checks.due("CURVES that there are", Checks.tell(bench, "c0+c1"), 2);
        says("a CURVE that there is not: it itself, one that has gone");
        faultOf(bench, "c3", 2, 0);
        checks.due("drop", bench.drop(), 2);
        faultOf(bench, "c2", 2, 0);
    }

    private void lastActs() {
        says("the 61st ACT: the 60th is no FAULT");
        toldOf(60, ACTS_59 + "x");
        toldOf(60, ACTS_59 + "12.5");
        toldOf(60, ACTS_59 + "c0");
        toldOf(60, ACTS_58 + "x^9");
        toldOf(60, ACTS_58 + "sin(x)");
        toldOf(60, times("x+", 28) + "-lesser(x,x)");
        for (String sign : new String[] {"+", "-", "*", "/"}) {
            toldOf(60, times("x" + sign, 29) + "-x");
            fault(ACTS_58 + "x" + sign + "x", 3, 60);
        }
        fault(ACTS_58 + "sin(-x)", 3, 63);
        for (String name : new String[] {"root", "exp", "log", "sin", "cos", "size", "lesser", "greater"}) {
            fault(ACTS_59 + name + "(x)", 3, 60 + name.length());
        }
        says("x, NUMBERS, CURVES, - ahead, powers, + - * /, names: one each");
        toldOf(1, "x");
        toldOf(1, "1234.5678");
        toldOf(1, "c0");
        toldOf(2, "-x");
        toldOf(2, "x^9");
        toldOf(3, "x+x");
        toldOf(3, "x-x");
        toldOf(3, "x*x");
        toldOf(3, "x/x");
        toldOf(2, "exp(x)");
        toldOf(3, "greater(x,x)");
        toldOf(1, "((((x))))");
        toldOf(11, " - ( c0 ) ^ 3 * size ( - x ) / 2 - 1");
        toldOf(59, times("(x)+", 29) + "((x))");
    }

    private void sixtyFirstActs() {
        says("3 the 61st ACT, as its sign, or the first byte of its WORD is met");
        for (String word : new String[] {"x", "7", "12.5", "c0", "root(x)", "exp(x)", "log(x)", "sin(x)", "cos(x)",
            "size(x)", "lesser(x,x)", "greater(x,x)", "-x", "sin", "lesser"}) {
            faultOf(with("x"), ACTS_60 + word, 3, 60);
            faultOf(with("x"), ACTS_60 + "( " + word, 3, 62);
        }
        for (String sign : new String[] {"+", "-", "*", "/"}) {
            fault(SUM_60 + sign + "x", 3, 60);
            fault(SUM_60 + sign, 3, 60);
            fault(SUM_60 + "  " + sign, 3, 62);
        }
        says("3: a power at its ^");
        fault(SUM_60 + "^2", 3, 60);
        fault(SUM_60 + " ^2", 3, 61);
        fault(SUM_60 + "^0", 3, 60);
        fault("(" + SUM_60 + ")^2", 3, 62);
        says("3 the 61st ACT: what is none may stand there, and what can't stand there is 1");
        told("(" + ACTS_58 + "(-(x)))", SUM_60 + "   ");
        fault(ACTS_60 + "y", 1, 60);
        fault(ACTS_60 + "12345", 1, 60);
        fault(ACTS_60 + "c8", 1, 60);
        fault(ACTS_60 + "*x", 1, 60);
        fault(ACTS_60 + "^2", 1, 60);
        fault(ACTS_59 + "-x", 1, 59);
        fault(SUM_60 + "x", 1, 59);
        fault(SUM_60 + " x", 1, 61);
        fault(SUM_60 + ")", 1, 60);
        fault(ACTS_60, 1, 60);
        says("3 ahead of 2");
        fault(ACTS_60 + "c7", 3, 60);
        fault(ACTS_59 + "c7", 2, 59);
        says("CURVES: one each, whatever they are made of");
        ShutBench bench = with(SUM_60, "c0+c0");
        checks.due("ACTS", bench.about(1, 0), 3);
        checks.due("60 CURVES", Checks.tell(bench, times("c1+", 29) + "-c1"), 2);
        checks.due("ACTS", bench.about(2, 0), 60);
    }

    private void bracketsWithin() {
        says("3 a ( within 12 others");
        told(times("(", 12) + "x" + times(")", 12), times("sin(", 12) + "x" + times(")", 12));
        told(times("(", 11) + "lesser(x,x)" + times(")", 11), "(x)" + times("+(x)", 13));
        fault(times("(", 13) + "x" + times(")", 13), 3, 12);
        fault(times(" (", 13), 3, 25);
        fault(times("sin(", 13) + "x" + times(")", 13), 3, 51);
        fault(times("(", 12) + "cos (x)", 3, 16);
        fault(times("(", 12) + "greater(x,x)", 3, 19);
        fault(times("(", 11) + "lesser((x),x)", 3, 18);
        fault(times("(", 11) + "lesser(x,(x))", 3, 20);
        fault(times("(", 11) + "(x)+(x)*((x))", 3, 20);
        told(times("(", 11) + "(x)+(x)*(-x)" + times(")", 11));
        says("a ( that can't stand there is 1, within 12 others too");
        fault(times("(", 12) + "x(", 1, 13);
        fault(times("(", 12) + "x)(", 1, 14);
        says("12 others and 60 ACTS");
        told(times("-(", 12) + "x" + times("+x", 23) + "^2" + times(")", 12));
        fault(times("-(", 12) + "x" + times("+x", 23) + "^2+x", 3, 73);
    }

    // ---- promises 1 to 6

    private void aNewObject() {
        says("No CURVES.");
        ShutBench bench = new ShutBench();
        checks.due("count(0)", bench.count(0), 0);
        checks.due("drop", bench.drop(), -1);
        checks.due("at", bench.at(0, 0, 0), -1);
        checks.due("about", bench.about(0, 0), -1);
        faultOf(bench, "c0", 2, 0);
        says("NONE = -1");
        checks.due("NONE", none(), -1);
    }

    /** The constant as the class has it now, not as it was when this test was compiled. */
    private static int none() {
        try {
            return ShutBench.class.getField("NONE").getInt(null);
        } catch (ReflectiveOperationException e) {
            return 0;
        }
    }

    private void feed() {
        says("Twenty bytes come behind the TAPE: how many it has");
        ShutBench bench = new ShutBench();
        for (int n = 20; n <= 200; n += 20) {
            checks.due("feed", bench.feed(0, 0, 0, 0, 0), n);
            checks.due("count(1)", bench.count(1), n);
        }
        says("NONE, and none comes, if it would have more than 200");
        checks.due("feed of 200", bench.feed(0, 0, 0, 0, 0), -1);
        checks.due("count(1)", bench.count(1), 200);
        checks.due("end", bench.end(181), 181);
        checks.due("feed of 181", bench.feed(0, 0, 0, 0, 0), -1);
        checks.due("count(1)", bench.count(1), 181);
        checks.due("end", bench.end(180), 180);
        checks.due("feed of 180", bench.feed(0, 0, 0, 0, 0), 200);
        says("of each number the highest first");
        bench = new ShutBench();
        bench.feed(0x312D322A, 0x78202020, 0x20202020, 0x20202020, 0x2020205E);
        bench.feed(0x33202020, 0x20202020, 0x20202020, 0x20202020, 0x20202020);
        checks.due("1-2*x^3", bench.curve(), 0);
        valueOf(bench, 0, ONE, ONE, -ONE, -ONE);
        says("of each number the highest first: the highest bit of a byte too");
        bench.feed(0x78FFFFFF, -1, -1, -1, -1);
        checks.due("x and 255", bench.curve(), -2 - (1 + 4));
        bench.feed(0x78A00000, 0, 0, 0, 0);
        checks.due("x and 160", bench.curve(), -2 - (1 + 4));
        says("behind the TAPE, as it is once it has ended");
        bench.feed(0x782B7878, 0x78787878, 0x78787878, 0x78787878, 0x78787878);
        checks.due("end", bench.end(2), 2);
        checks.due("feed", bench.feed(0x31202020, 0x20202020, 0x20202020, 0x20202020, 0x20202020), 22);
        checks.due("x+1", bench.curve(), 1);
        valueOf(bench, 1, 0, 0, ONE, ONE);
    }

    private void end() {
        says("The TAPE has its first n bytes alone: n");
        ShutBench bench = new ShutBench();
        checks.due("end(0) of none", bench.end(0), 0);
        checks.due("feed", bench.feed(0x78782B31, 0, 0, 0, 0), 20);
        checks.due("end(20)", bench.end(20), 20);
        checks.due("end(19)", bench.end(19), 19);
        checks.due("end(1)", bench.end(1), 1);
        checks.due("count(1)", bench.count(1), 1);
        says("NONE, and nothing happens, if it has not so many");
        checks.due("end(2)", bench.end(2), -1);
        checks.due("end(MAX)", bench.end(MAX), -1);
        checks.due("count(1)", bench.count(1), 1);
        says("NONE, and nothing happens, if n is below 0");
        checks.due("end(-1)", bench.end(-1), -1);
        checks.due("end(MIN)", bench.end(MIN), -1);
        checks.due("count(1)", bench.count(1), 1);
        checks.due("x", bench.curve(), 0);
        says("The TAPE has its first n bytes alone: none of them");
        checks.due("feed", bench.feed(0x78202020, 0, 0, 0, 0), 20);
        checks.due("end(0)", bench.end(0), 0);
        checks.due("count(1)", bench.count(1), 0);
        checks.due("nothing", bench.curve(), -3);
        checks.due("end(1) of none", bench.end(1), -1);
        says("The TAPE has its first n bytes alone: of 200");
        for (int n = 0; n < 10; n++) {
            bench.feed(0, 0, 0, 0, 0);
        }
        checks.due("end(201)", bench.end(201), -1);
        checks.due("end(200)", bench.end(200), 200);
        checks.due("end(199)", bench.end(199), 199);
    }

    private void curve() {
        says("The TAPE, which is empty then, is a CURVE: its number, the next one");
        ShutBench bench = new ShutBench();
        for (int k = 0; k < 8; k++) {
            Checks.put(bench, "x+" + k);
            checks.due("count(1)", bench.count(1), 3);
            checks.due("curve", bench.curve(), k);
            checks.due("count(1)", bench.count(1), 0);
            checks.due("count(0)", bench.count(0), k + 1);
        }
        for (int k = 0; k < 8; k++) {
            valueOf(bench, k, 5, 5, (long) k * ONE + 5, (long) k * ONE + 5);
        }
        says("NONE if there are eight");
        checks.due("a ninth", Checks.tell(bench, "x"), -1);
        checks.due("count(0)", bench.count(0), 8);
        says("The TAPE is empty then, with NONE too");
        checks.due("count(1)", bench.count(1), 0);
        says("the next one: of one that has gone");
        checks.due("drop", bench.drop(), 7);
        checks.due("an eighth", Checks.tell(bench, "2*x"), 7);
        valueOf(bench, 7, 5, 5, 10, 10);
        says("with a FAULT -2 - (its kind and 4 times its place)");
        bench = new ShutBench();
        checks.due("kind 1 at 0", Checks.tell(bench, "y"), -3);
        checks.due("kind 1 at 200", Checks.tell(bench, times(" ", 200)), -803);
        checks.due("kind 1 at 199", Checks.tell(bench, times(" ", 199) + "+"), -799);
        checks.due("kind 2 at 0", Checks.tell(bench, "c0"), -4);
        checks.due("kind 2 at 198", Checks.tell(bench, times(" ", 198) + "c0"), -796);
        checks.due("kind 3 at 12", Checks.tell(bench, times("(", 13)), -53);
        says("with a FAULT: no CURVE, and the TAPE is empty then");
        checks.due("count(0)", bench.count(0), 0);
        checks.due("count(1)", bench.count(1), 0);
        checks.due("x", Checks.tell(bench, "x"), 0);
        Checks.tell(bench, "2*x+");
        checks.due("count(0)", bench.count(0), 1);
        valueOf(bench, 0, 5, 5, 5, 5);
    }

    private void drop() {
        says("The latest CURVE goes: its number");
        ShutBench bench = with("x", "c0+1", "c1+c0");
        checks.due("drop", bench.drop(), 2);
        checks.due("at", bench.at(2, 0, 0), -1);
        checks.due("slope", bench.slope(2, 0, 0), -1);
        checks.due("about", bench.about(2, 0), -1);
        checks.due("count(0)", bench.count(0), 2);
        valueOf(bench, 1, 0, 0, ONE, ONE);
        checks.due("drop", bench.drop(), 1);
        checks.due("drop", bench.drop(), 0);
        says("NONE without one");
        checks.due("drop", bench.drop(), -1);
        checks.due("count(0)", bench.count(0), 0);
        checks.due("drop", bench.drop(), -1);
        checks.due("the next one", Checks.tell(bench, "3"), 0);
        valueOf(bench, 0, 0, 0, 3 * ONE, 3 * ONE);
        says("The latest CURVE goes: the TAPE stays");
        bench.feed(0x78202020, 0, 0, 0, 0);
        checks.due("drop", bench.drop(), 0);
        checks.due("count(1)", bench.count(1), 20);
    }

    private void about() {
        says("what 0: ACTS");
        ShutBench bench = with("x", SUM_60, "c1+c0");
        checks.due("one", bench.about(0, 0), 1);
        checks.due("sixty", bench.about(1, 0), 60);
        checks.due("of CURVES one each", bench.about(2, 0), 3);
        says("1: 1 if it has no size, lesser, greater, else 0");
        ShutBench smooth = with("x", "-root(x)^2/exp(x)+log(x)*sin(x)-cos(x)", "1");
        for (int k = 0; k < 3; k++) {
            checks.due("about(" + k + ", 1)", smooth.about(k, 1), 1);
        }
        for (String text : new String[] {"size(x)", "lesser(x,1)", "greater(x,1)", "size(1)+x", "x*exp(-size(x))^2"}) {
            checks.due("about(0, 1) of " + text, with(text).about(0, 1), 0);
        }
        says("1: nor CURVES that it names");
        smooth = with("size(x)", "x", "c1+1", "c0", "c3*c1", "c1*c3", "c2-c1");
        int[] due = {0, 1, 1, 0, 0, 0, 1};
        for (int k = 0; k < due.length; k++) {
            checks.due("about(" + k + ", 1)", smooth.about(k, 1), due[k]);
        }
        says("NONE without it");
        for (int curve : new int[] {3, 7, 8, -1, MIN, MAX}) {
            for (int what = 0; what < 3; what++) {
                checks.due("about(" + curve + ", " + what + ")", bench.about(curve, what), -1);
            }
        }
        says("NONE for another what");
        for (int what : new int[] {3, -1, MIN, MAX}) {
            checks.due("about(0, " + what + ")", bench.about(0, what), -1);
        }
    }

    private void degree(int due, String... texts) {
        ShutBench bench = with(texts);
        int last = texts.length - 1;
        checks.due("degree of " + texts[last], bench.about(last, 2), due);
    }

    private void degrees() {
        says("2: its degree: x 1, NUMBERS 0");
        degree(1, "x");
        degree(0, "5");
        degree(0, "0");
        degree(0, "9999.9");
        says("2: + - the greater");
        degree(3, "x^3+x^2");
        degree(3, "x^2+x^3");
        degree(3, "x^3-x^3");
        degree(3, "x^2-x^3");
        degree(1, "x-x");
        degree(0, "1-2");
        says("2: * the sum");
        degree(5, "x^2*x^3");
        degree(1, "x*5");
        degree(1, "0*x");
        degree(0, "5*5");
        says("2: ^ n n times");
        degree(9, "x^9");
        degree(1, "x^1");
        degree(6, "(x^2+x)^3");
        degree(0, "5^9");
        says("2: - ahead leaves it");
        degree(2, "-x^2");
        degree(3, "x*-(1-x)^2");
        says("2: 1000 at most");
        degree(999, "(((x^9)^4*x)^3)^9");
        degree(1000, "(((x^5)^5)^5)^8");
        degree(1000, "(((x^5)^5)^5)^8*x");
        degree(1000, "(((x^5)^5)^5)^9");
        degree(1000, "((((x^9)^9)^9)^9)^9");
        degree(1000, "(((x^9)^4*x)^3)^9*x");
        degree(1000, "(((x^9)^4*x)^3)^9*x^2");
        says("2: 1000 at most, however many CURVES");
        degree(1000, "((x^9)^9)^9", "(c0^9)^9", "c1^9*c1^9", "c2^9*c2^9", "c3^9*c3^9", "c4^9", "c5*c5*c5", "c6^9");
        says("2: x, NUMBERS, + - * and powers alone, else NONE");
        for (String text : new String[] {"x/2", "2/x", "1/1", "root(x)", "exp(x)", "log(x)", "sin(x)", "cos(x)",
            "size(x)", "lesser(x,x)", "greater(x,1)", "x+root(4)", "root(4)+x", "x-1/2", "1/2-x", "x*sin(1)",
            "sin(1)*x", "0*exp(1)", "(x/2)^2", "-(1/2)", "-size(1)"}) {
            degree(-1, text);
        }
        says("2: and CURVES that are");
        degree(2, "x^2+1", "c0");
        degree(7, "x^2", "c0^3*x");
        degree(1, "x^2", "x", "c1");
        degree(2, "x^2", "x", "c0+c1");
        degree(-1, "1/x", "c0");
        degree(-1, "1/x", "x", "c1+c0");
        degree(-1, "1/x", "c0", "c1^2*x");
    }
}
