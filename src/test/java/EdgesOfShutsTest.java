/** The edges of the SHUTS of ACTS and of SLOPES, and of promises 7 and 8. */
public final class EdgesOfShutsTest extends Edges {
    private static final int GREATEST_EXP = 7994000;
    private static final int LEAST_EXP = -14680064;
    private static final int GREATEST_WAVE = 6815744;

    EdgesOfShutsTest(Checks checks) {
        super(checks);
    }

    public static void main(String[] args) {
        Checks checks = new Checks();
        new EdgesOfShutsTest(checks).ask();
        checks.close("EdgesOfShutsTest");
    }

    /** p, E(p) down, E(p) up, by a third reading of the document. */
    private static int[][] raised() {
        return new int[][] {
            {0, 1048576, 1048577},
            {1, 1048577, 1048578},
            {-1, 1048574, 1048576},
            {524288, 1728809, 1728811},
            {1048575, 2850322, 2850324},
            {1048576, 2850325, 2850326},
            {1048577, 2850327, 2850331},
            {2097151, 7747978, 7747982},
            {3845728, 41058789, 41058811},
            {5242881, 155622616, 155622769},
            {6815744, 697451457, 697451894},
            {7340031, 1149901896, 1149902491},
            {7340033, 1149904224, 1149905396},
            {7993999, 2145449533, 2145450870},
            {7994000, 2145451600, 2145452911},
            {-349526, 751336, 751338},
            {-1048575, 385749, 385751},
            {-1048576, 385749, 385750},
            {-1048577, 385749, 385750},
            {-2797152, 72792, 72793},
            {-3133383, 52823, 52824},
            {-5242881, 7065, 7066},
            {-7340029, 956, 957},
            {-9437193, 129, 130},
            {-12582913, 6, 7},
            {-13631488, 2, 3}
        };
    }

    /** m, then the SHUTS of sin and cos of m alone, by a third reading of the document. */
    private static int[][] waved() {
        return new int[][] {
            {0, -1, 1, 1048575, 1048576},
            {1, 0, 2, 1048575, 1048576},
            {-1, -2, 0, 1048575, 1048576},
            {3, 2, 4, 1048575, 1048576},
            {1000, 999, 1001, 1048574, 1048576},
            {-1000, -1001, -999, 1048574, 1048576},
            {524288, 502713, 502715, 920211, 920213},
            {-524288, -502715, -502713, 920211, 920213},
            {1048576, 882345, 882347, 566547, 566549},
            {1572864, 1045948, 1045950, 74172, 74174},
            {1647099, 1048575, 1048576, -1, 1},
            {2097229, 953434, 953437, -436433, -436431},
            {-2097229, -953437, -953434, -436433, -436431},
            {3294199, -2, 1, -1048576, -1048575},
            {-3294199, -1, 2, -1048576, -1048575},
            {4194305, -793567, -793564, -685396, -685393},
            {-5242885, 1005502, 1005505, 297445, 297448},
            {5242889, -1005504, -1005501, 297448, 297451},
            {6291453, -292993, -292989, 1006809, 1006813},
            {6291459, -292987, -292984, 1006810, 1006814},
            {-6291459, 292984, 292987, 1006810, 1006814},
            {6815743, 225567, 225571, 1024024, 1024029},
            {-6815743, -225571, -225567, 1024024, 1024029},
            {6815744, 225568, 225571, 1024025, 1024028},
            {-6815744, -225571, -225568, 1024025, 1024028}
        };
    }

    @Override
    void ask() {
        holesOfParts();
        sums();
        products();
        quotients();
        powers();
        powersTooGreat();
        sizes();
        choices();
        roots();
        exps();
        expsBelowZero();
        logs();
        waves();
        wavesTooFar();
        wavesBelowZero();
        at();
        slopesOfHoles();
        slopesOfHolesOfParts();
        slopesOfSums();
        slopesOfProducts();
        slopesOfPowers();
        slopesOfNames();
        slopesOfSizes();
        slopesOfChoices();
        slopesOfCurves();
        slope();
    }

    // ---- II

    private void holesOfParts() {
        says("a HOLE of one makes one");
        for (String text : new String[] {"9999+x", "x+9999", "9999-x", "x-9999", "9999*0", "0*9999", "9999/1", "1/9999",
            "0/9999", "-9999", "9999^1", "9999^2", "9999^3", "size(9999)", "lesser(9999,x)", "lesser(x,9999)",
            "greater(9999,x)", "greater(x,9999)", "root(9999)", "exp(9999)", "exp(-9999)", "log(9999)", "sin(9999)",
            "cos(9999)", "(9999)", "sin(1/x)", "exp(-1/x^2)"}) {
            hole(text, 0, 0);
            slopeHole(text, 0, 0);
        }
        says("a HOLE of one makes one: of a CURVE");
        ShutBench bench = with("9999", "c0", "x-c0*0");
        checks.due("at", bench.at(1, 0, 0), 1);
        checks.due("at", bench.at(2, 0, 0), 1);
        checks.due("slope", bench.slope(1, 0, 0), 1);
    }

    private void sums() {
        says("+ : [a + c, b + d]");
        value("x+2*x", -3, 4, -9, 12);
        value("x*2+x", MIN / 4, MAX / 4, MIN / 4 * 3L, MAX / 4 * 3L);
        says("- : [a - d, b - c]");
        value("x-2*x", -3, 4, -11, 10);
        value("2*x-x", -3, 4, -10, 11);
        value("x-x", 5, 5, 0, 0);
        says("- ahead: [-b, -a]");
        value("-x", -3, 4, -4, 3);
        value("-x", MIN + 1, MAX, -MAX, MAX);
        value("-x", 0, 0, 0, 0);
        hole("-x", MIN, MIN);
        hole("-x", MIN, 5);
    }

    private void products() {
        says("*: of the four products by 2^20 the least, down, the greatest, up");
        value("x*(x+3)", -ONE, 2 * ONE, -5 * ONE, 10 * ONE);
        value("x*(1-x)", -ONE, 2 * ONE, -2 * ONE, 4 * ONE);
        value("x*(x-3)", -ONE, 2 * ONE, -8 * ONE, 4 * ONE);
        value("x*x", -3 * ONE, -2 * ONE, 4 * ONE, 9 * ONE);
        value("x*x", 2 * ONE, 3 * ONE, 4 * ONE, 9 * ONE);
        value("x*-x", 2 * ONE, 3 * ONE, -9 * ONE, -4 * ONE);
        value("-x*x", 2 * ONE, 3 * ONE, -9 * ONE, -4 * ONE);
        says("*: down, up");
        value("x*0.5", 1, 3, 0, 2);
        value("x*0.5", -3, -1, -2, 0);
        value("x*0.5", -1, 1, -1, 1);
        value("x*x", 1, 1, 0, 1);
        value("x*x", -1, -1, 0, 1);
        value("x*x", 1024, 1024, 1, 1);
        value("x*-x", 1, 1, -1, 0);
        value("x*0", MIN, MAX, 0, 0);
        value("x*1", MIN, MAX, MIN, MAX);
        says("*: a HOLE beyond");
        value("x*2", 0, 1073741823, 0, 2147483646);
        hole("x*2", 0, 1073741824);
        value("x*2", -1073741824, 0, MIN, 0);
        hole("x*2", -1073741825, 0);
        hole("x*x", MIN, MIN);
        hole("x*x", MIN, MAX);
        hole("x*-1", MIN, 0);
    }

    private void quotients() {
        says("/: a HOLE if c is not above 0 and d not below it");
        value("0/x", 1, 5, 0, 0);
        value("0/x", -5, -1, 0, 0);
        hole("0/x", 0, 5);
        hole("0/x", -5, 0);
        hole("0/x", 0, 0);
        hole("0/x", -1, 1);
        hole("0/x", MIN, MAX);
        value("0/x", 1, MAX, 0, 0);
        value("0/x", MIN, -1, 0, 0);
        says("/: of the four quotients, times 2^20, likewise");
        value("x/(x+4)", -3 * ONE, -2 * ONE, -3 * ONE, -ONE);
        value("x/(x+4)", 0, ONE, 0, ONE / 4);
        value("x/(x+4)", -ONE, ONE, -349526, 349526);
        value("x/(x-4)", -ONE, ONE, -349526, 349526);
        value("x/(x-4)", ONE, 2 * ONE, -ONE, -349525);
        value("x/(x-4)", -2 * ONE, -ONE, 174762, 419431);
        value("(x+3)/x", ONE, 3 * ONE, 1398101, 6291456);
        says("/: down, up");
        value("x/3", 1, 1, 0, 1);
        value("x/3", -1, -1, -1, 0);
        value("x/(0-3)", 1, 1, -1, 0);
        value("x/(0-3)", -1, -1, 0, 1);
        value("x/(0-3)", 3, 3, -1, -1);
        value("x/3", 2, 4, 0, 2);
        says("/: a HOLE beyond");
        value("1/x", 513, 513, 2143297520, 2143297521);
        hole("1/x", 512, 512);
        hole("1/x", 512, 513);
        value("1/x", -512, -512, MIN, MIN);
        hole("1/x", -511, -511);
        hole("1/x", -1024, -511);
        hole("1/x", 1, 1);
        hole("x/0.5", 0, 1 << 30);
        value("x/x", MIN, MIN, ONE, ONE);
        hole("x/(0-1)", MIN, MIN);
    }

    private void powers() {
        says("^ n: of a size s: s, then n - 1 times: none of 1");
        value("x^1", MIN, MAX, MIN, MAX);
        value("x^1", -7, -5, -7, -5);
        says("^ n: times s by 2^20, each time down (up)");
        value("x^3", 1049300, 1049300, 1050748, 1050751);
        value("x^3", -1049300, -1049300, -1050751, -1050748);
        value("x^5", 1048900, 1048900, 1050196, 1050200);
        value("x^9", -1048747, 1048747, -1050123, 1050123);
        value("x^4", 1049088, 1049088, 1050624, 1050627);
        says("^ n: of a size s: s, then n - 1 times");
        value("2^2", 0, 0, 4 * ONE, 4 * ONE);
        value("2^3", 0, 0, 8 * ONE, 8 * ONE);
        value("2^8", 0, 0, 256 * ONE, 256 * ONE);
        value("0^9", 0, 0, 0, 0);
        says("Of an odd n: of a and b each: M, of one below 0: less M of its size, so that LOW is down, HIGH up");
        value("x^3", -2 * ONE, 3 * ONE, -8 * ONE, 27 * ONE);
        value("x^3", -3 * ONE, -2 * ONE, -27 * ONE, -8 * ONE);
        value("x^3", -1000, 1000, -1, 1);
        value("x^3", 1000, 1000, 0, 1);
        value("x^3", -1000, -1000, -1, 0);
        value("x^3", 0, 1, 0, 1);
        value("x^3", -1, 0, -1, 0);
        says("of an even one: from M of the least size in [a, b] down to M of the greatest up");
        value("x^2", 2 * ONE, 3 * ONE, 4 * ONE, 9 * ONE);
        value("x^2", -3 * ONE, -2 * ONE, 4 * ONE, 9 * ONE);
        value("x^2", -3 * ONE, 2 * ONE, 0, 9 * ONE);
        value("x^2", -2 * ONE, 3 * ONE, 0, 9 * ONE);
        value("x^2", 0, 2 * ONE, 0, 4 * ONE);
        value("x^2", -2 * ONE, 0, 0, 4 * ONE);
        value("x^2", -1, 0, 0, 1);
        value("x^2", 1000, 2000, 0, 4);
        value("x^2", -2000, -1000, 0, 4);
        value("x^2", 1024, 1025, 1, 2);
        value("x^2", -1025, -1024, 1, 2);
        value("x^4", -1000, 1000, 0, 1);
    }

    private void powersTooGreat() {
        says("M above 2147483648 at any time: a HOLE");
        int[] most = {47453132, 13316085, 7053950, 4817990, 3736700, 3116355, 2719669, 2446388};
        long[] lows = {2147483574, 2147483560, 2147483142, 2147483385, 2147483278, 2147479075, 2147479007, 2147477739};
        long[] highs = {2147483575, 2147483574, 2147483190, 2147483497, 2147483525, 2147479397, 2147479576, 2147478347};
        for (int k = 0; k < most.length; k++) {
            int n = k + 2;
            int s = most[k];
            boolean odd = n % 2 == 1;
            value("x^" + n, s, s, lows[k], highs[k]);
            value("x^" + n, -s, -s, odd ? -highs[k] : lows[k], odd ? -lows[k] : highs[k]);
            value("x^" + n, -s, s, odd ? -highs[k] : 0, highs[k]);
            hole("x^" + n, s + 1, s + 1);
            hole("x^" + n, -s - 1, -s - 1);
            hole("x^" + n, 0, s + 1);
            hole("x^" + n, -s - 1, 0);
            hole("x^" + n, MIN, MIN);
            hole("x^" + n, MAX, MAX);
        }
        says("M of 2147483648 is not above it");
        value("x^1", MIN, MIN, MIN, MIN);
        says("M of a small one comes to 0");
        value("x^9", 0, 100000, 0, 1);
    }

    private void sizes() {
        says("size: [a, b], [-b, -a], or [0, the greater of -a and b]");
        value("size(x)", 2, 3, 2, 3);
        value("size(x)", 0, 3, 0, 3);
        value("size(x)", -3, -2, 2, 3);
        value("size(x)", -3, 0, 0, 3);
        value("size(x)", 0, 0, 0, 0);
        value("size(x)", -1, 1, 0, 1);
        value("size(x)", -3, 2, 0, 3);
        value("size(x)", -2, 3, 0, 3);
        value("size(x)", MIN + 1, MAX, 0, MAX);
        value("size(x)", MIN + 1, MIN + 1, MAX, MAX);
        says("size: a HOLE beyond");
        hole("size(x)", MIN, MIN);
        hole("size(x)", MIN, -5);
        hole("size(x)", MIN, MAX);
    }

    private void choices() {
        says("lesser: of both LOWS, of both HIGHS");
        value("lesser(x,2*x)", -3, 4, -6, 4);
        value("lesser(2*x,x)", -3, 4, -6, 4);
        value("lesser(x,1)", 5, 2 * ONE, 5, ONE);
        value("lesser(x,-x)", MIN + 1, MAX, -MAX, MAX);
        says("greater: of both LOWS, of both HIGHS");
        value("greater(x,2*x)", -3, 4, -3, 8);
        value("greater(2*x,x)", -3, 4, -3, 8);
        value("greater(x,1)", 5, 2 * ONE, ONE, 2 * ONE);
    }

    private void roots() {
        says("root: a HOLE if a is below 0");
        hole("root(x)", -1, -1);
        hole("root(x)", -1, 5);
        hole("root(x)", MIN, MAX);
        value("root(x)", 0, 0, 0, 0);
        value("root(x)", 0, 1, 0, 1024);
        says("root: the whole root of a * 2^20 down, of b * 2^20 up");
        value("root(x)", 1, 1, 1024, 1024);
        value("root(x)", 2, 2, 1448, 1449);
        value("root(x)", 3, 4, 1773, 2048);
        value("root(x)", 4, 5, 2048, 2290);
        value("root(x)", ONE, 4 * ONE, ONE, 2 * ONE);
        value("root(x)", ONE - 1, ONE + 1, ONE - 1, ONE + 1);
        value("root(x)", MAX, MAX, 47453132, 47453133);
    }

    private void exps() {
        says("exp: a HOLE if b is above 7994000");
        value("exp(x)", GREATEST_EXP, GREATEST_EXP, 2145451600, 2145452911);
        value("exp(x)", GREATEST_EXP - 1, GREATEST_EXP - 1, 2145449533, 2145450870);
        hole("exp(x)", GREATEST_EXP + 1, GREATEST_EXP + 1);
        hole("exp(x)", MIN, GREATEST_EXP + 1);
        hole("exp(x)", MAX, MAX);
        says("exp: from E(a) down to E(b) up");
        value("exp(x)", 0, ONE, ONE, 2850326);
        value("exp(x)", -ONE, 0, 385749, ONE + 1);
        value("exp(x)", MIN, GREATEST_EXP, 0, 2145452911);
        says("E(p): 14 TERMS, their sum; up: 1 more. Then i times: 45605201, 6171992 (45605202, 6171993). By 16");
        for (int[] row : raised()) {
            value("exp(x)", row[0], row[0], row[1], row[2]);
        }
    }

    private void expsBelowZero() {
        says("E(p): below -14680064 0 down, 1 up");
        value("exp(x)", LEAST_EXP - 1, LEAST_EXP - 1, 0, 1);
        value("exp(x)", MIN, MIN, 0, 1);
        value("exp(x)", LEAST_EXP, LEAST_EXP, 0, 1);
        says("E(p): i the whole part down");
        value("exp(x)", -1, -1, ONE - 2, ONE);
        value("exp(x)", -ONE, -ONE, 385749, 385750);
        value("exp(x)", -ONE - 1, -ONE - 1, 385749, 385750);
        value("exp(x)", -ONE + 1, -ONE + 1, 385749, 385751);
        value("exp(x)", ONE - 1, ONE - 1, 2850322, 2850324);
        value("exp(x)", ONE, ONE, 2850325, 2850326);
    }

    private void logs() {
        says("log: a HOLE if a is not above 0");
        hole("log(x)", 0, 0);
        hole("log(x)", 0, ONE);
        hole("log(x)", -1, -1);
        hole("log(x)", MIN, MAX);
        value("log(x)", 1, 1, -14558250, -14517633);
        says("log: LOW: E(p) up is not above a");
        value("log(x)", ONE, ONE, -1, 0);
        value("log(x)", ONE + 1, ONE + 1, 0, 1);
        value("log(x)", 2850326, 2850326, ONE, ONE + 1);
        value("log(x)", 2850325, 2850325, ONE - 1, ONE);
        value("log(x)", 2145452910, 2145452910, GREATEST_EXP - 1, 7995393);
        value("log(x)", 2145452911, 2145452911, GREATEST_EXP, 7995393);
        says("log: HIGH: 1 more than it finds for: E(p) down is below b");
        value("log(x)", ONE - 1, ONE - 1, -2, 0);
        value("log(x)", 2, 2, -13826143, -13805356);
        value("log(x)", ONE / 2, 2 * ONE, -726818, 726818);
        says("log: but 7995393 if it finds 7994000");
        value("log(x)", 2145451600, 2145451600, GREATEST_EXP - 1, GREATEST_EXP);
        value("log(x)", 2145451601, 2145451601, GREATEST_EXP - 1, 7995393);
        value("log(x)", 1, MAX, -14558250, 7995393);
        value("log(x)", MAX, MAX, GREATEST_EXP, 7995393);
    }

    private void waves() {
        says("sin, cos: m = a + b by 2, down, r = b - m");
        value("sin(x)", 0, 0, -1, 1);
        value("sin(x)", -1, 2, -3, 3);
        value("sin(x)", -2, 1, -4, 2);
        value("sin(x)", 0, 3, -2, 4);
        value("sin(x)", -3, 0, -5, 1);
        value("sin(x)", ONE, ONE + 5, 882343, 882352);
        value("cos(x)", ONE, ONE + 5, 566542, 566551);
        says("S: 20 TERMS, (always down from down, up from up), less 1, and 1. By 16");
        for (int[] row : waved()) {
            value("sin(x)", row[0], row[0], row[1], row[2]);
            value("cos(x)", row[0], row[0], row[3], row[4]);
        }
        says("from S(m) down less r to S(m) up and r, within these ends");
        value("cos(x)", 0, 0, ONE - 1, ONE);
        value("cos(x)", -1, 2, ONE - 3, ONE);
        value("cos(x)", 3294199, 3294199, -ONE, -ONE + 1);
        value("sin(x)", 1647099, 1647099, ONE - 1, ONE);
        value("sin(x)", -1647099, -1647099, -ONE, -ONE + 1);
        value("sin(x)", ONE / 2, ONE, 452605, 976895);
        value("cos(x)", ONE / 2, ONE, 505086, 1029376);
    }

    private void wavesTooFar() {
        says("If m is above 6815744: [-2^20, 2^20]");
        value("sin(x)", GREATEST_WAVE, GREATEST_WAVE, 225568, 225571);
        value("cos(x)", GREATEST_WAVE, GREATEST_WAVE, 1024025, 1024028);
        value("sin(x)", GREATEST_WAVE, GREATEST_WAVE + 1, 225567, 225572);
        value("cos(x)", GREATEST_WAVE - 1, GREATEST_WAVE + 2, 1024023, 1024030);
        value("sin(x)", GREATEST_WAVE + 1, GREATEST_WAVE + 1, -ONE, ONE);
        value("cos(x)", GREATEST_WAVE + 1, GREATEST_WAVE + 1, -ONE, ONE);
        value("cos(x)", GREATEST_WAVE, GREATEST_WAVE + 2, -ONE, ONE);
        value("sin(x)", MAX, MAX, -ONE, ONE);
        says("or below -6815744");
        value("sin(x)", -GREATEST_WAVE, -GREATEST_WAVE, -225571, -225568);
        value("cos(x)", -GREATEST_WAVE, -GREATEST_WAVE, 1024025, 1024028);
        value("sin(x)", -GREATEST_WAVE - 1, -GREATEST_WAVE + 1, -225572, -225567);
        value("sin(x)", -GREATEST_WAVE - 1, -GREATEST_WAVE, -ONE, ONE);
        value("cos(x)", -GREATEST_WAVE - 1, -GREATEST_WAVE - 1, -ONE, ONE);
        value("cos(x)", MIN, MIN, -ONE, ONE);
        says("or r above 2^20");
        value("sin(x)", 0, 2 * ONE, -166231, ONE);
        value("cos(x)", 0, 2 * ONE, -482029, ONE);
        value("sin(x)", 0, 2 * ONE + 1, -ONE, ONE);
        value("cos(x)", 0, 2 * ONE + 1, -ONE, ONE);
        value("cos(x)", -ONE, ONE, -1, ONE);
        value("cos(x)", -ONE - 1, ONE, -ONE, ONE);
        value("cos(x)", -ONE - 1, ONE + 1, -ONE, ONE);
        value("sin(x)", MIN, MAX, -ONE, ONE);
    }

    private void wavesBelowZero() {
        says("Of sin with m below 0 both with the other sign, changed over");
        value("sin(x)", -1, -1, -2, 0);
        value("sin(x)", 1, 1, 0, 2);
        value("sin(x)", -ONE, -ONE, -882347, -882345);
        value("sin(x)", -3294199, -3294199, -1, 2);
        value("sin(x)", 3294199, 3294199, -2, 1);
        value("sin(x)", -ONE, -ONE / 2, -976895, -452605);
        says("Of sin: of cos not");
        value("cos(x)", -ONE, -ONE / 2, 505086, 1029376);
        value("cos(x)", -ONE, -ONE, 566547, 566549);
        value("cos(x)", ONE, ONE, 566547, 566549);
    }

    private void at() {
        says("at: 0, low() and high() have it");
        ShutBench bench = with("x", "1/x");
        valueOf(bench, 0, -5, 9, -5, 9);
        says("at: 1 a HOLE");
        checks.due("at", bench.at(1, -1, 1), 1);
        checks.dueShut("at", bench, -5, 9);
        says("at: NONE, and nothing happens, without the CURVE");
        for (int curve : new int[] {2, 8, -1, MIN, MAX}) {
            checks.due("at(" + curve, bench.at(curve, 1, 2), -1);
            checks.dueShut("at", bench, -5, 9);
        }
        says("at: NONE, and nothing happens, if a is above b");
        checks.due("at", bench.at(0, 1, 0), -1);
        checks.due("at", bench.at(0, MAX, MIN), -1);
        checks.dueShut("at", bench, -5, 9);
        valueOf(bench, 0, 1, 1, 1, 1);
    }

    // ---- III

    private void slopesOfHoles() {
        says("a HOLE where the value is one, though the slope alone would be told");
        slopeHole("9999", 0, 0);
        slopeHole("x+2047", ONE, ONE);
        slopeHole("x-2047", -2 * ONE, -2 * ONE);
        slopeHole("-x", MIN, MIN);
        slopeHole("x*2", 1 << 30, 1 << 30);
        slopeHole("x/0.5", 1 << 30, 1 << 30);
        slopeHole("x^2", 47453133, 47453133);
        slopeHole("(2*x)^1", 1 << 30, 1 << 30);
        slopeHole("size(x)", MIN, MIN);
        slopeHole("lesser(x,9999)", 0, 0);
        slopeHole("greater(9999,x)", 0, 0);
        slopeHole("sin(9999)", 0, 0);
        says("a HOLE where the value is one: at its edge it is told");
        slope("x*2", 1073741823, 1073741823, 2 * ONE, 2 * ONE);
        slope("-x", MIN + 1, MIN + 1, -ONE, -ONE);
        slope("x+2047", ONE - 1, ONE - 1, ONE, ONE);
        says("a HOLE where the value is told: the slope's own");
        slopeHole("x*2000", 2 * ONE, 2 * ONE);
        slopeHole("2000*x/1+100*x", 0, 0);
        slopeHole("1/x", 513, 513);
    }

    /** The slope of root(x) is a HOLE at 0, its value is told. */
    private void slopesOfHolesOfParts() {
        says("slopes: a HOLE of one makes one");
        for (String text : new String[] {"root(x)+x", "x+root(x)", "root(x)-x", "x-root(x)", "-root(x)", "root(x)*x",
            "x*root(x)", "0*root(x)", "root(x)*0", "root(x)/(x+1)", "x/(root(x)+1)", "root(x)^2", "root(x)^1",
            "root(root(x)+1)", "exp(root(x))", "log(root(x)+1)", "sin(root(x))", "cos(root(x))", "size(root(x))",
            "size(-root(x))", "lesser(root(x),5)", "greater(5,root(x)+6)"}) {
            checks.due("at() of " + text, with(text).at(0, 0, ONE), 0);
            slopeHole(text, 0, ONE);
            slopeHole(text, 0, 0);
        }
    }

    private void slopesOfSums() {
        says("x: [2^20, 2^20]. NUMBERS: [0, 0]");
        slope("x", MIN, MAX, ONE, ONE);
        slope("x", 0, 0, ONE, ONE);
        slope("5", MIN, MAX, 0, 0);
        slope("0.0001", 0, 0, 0, 0);
        says("+, -, - ahead: likewise");
        slope("x^2+2*x", -ONE, 2 * ONE, 0, 6 * ONE);
        slope("2*x-x^2", -ONE, 2 * ONE, -2 * ONE, 4 * ONE);
        slope("-x^2", -ONE, 2 * ONE, -4 * ONE, 2 * ONE);
        says("+, -, - ahead: likewise a HOLE beyond");
        slopeHole("1024*x+x*1024", 0, 0);
        slope("1024*x+x*1023", 0, 0, 2047L * ONE, 2047L * ONE);
        slope("-1024*x-1024*x", 0, 0, MIN, MIN);
        slopeHole("-1024*x-1024.0001*x", 0, 0);
        slopeHole("-(-1024*x-1024*x)", 0, 0);
        says("+, -, - ahead: likewise a HOLE beyond: LOW alone, HIGH alone");
        slopeHole("1024*x+greater(1024*x,0)", -1, 1);
        slope("1023*x+greater(1024*x,0)", -1, 1, 1023 * ONE, 2047L * ONE);
        slopeHole("lesser(-1024*x,0)-1025*x", -1, 1);
        slope("lesser(-1024*x,0)-1024*x", -1, 1, MIN, MIN / 2);
        slopeHole("-lesser(-1024*x-1024*x,0)", -1, 1);
        slope("lesser(-1024*x-1024*x,0)", -1, 1, MIN, 0);
    }

    private void slopesOfProducts() {
        says("*: (f' * g) + (f * g')");
        slope("x*x", ONE, 2 * ONE, 2 * ONE, 4 * ONE);
        slope("x*x*x", 1000, 1000, 1, 3);
        slope("x^2*x^2", 1049088, 1049088, 4200450, 4200456);
        slope("x*0", MIN, MAX, 0, 0);
        says("/: ((f' * g) - (f * g')) / (g ^ 2)");
        slope("1/x", ONE, 2 * ONE, -ONE, -ONE / 4);
        slope("x/3", 1, 1, 349525, 349526);
        slope("x/(x+1)", 1000, 2000, 1043591, 1047578);
        slope("(x+1)/x", ONE, ONE + 3, -1048579, -1048566);
        slope("x/(x+4)", -3 * ONE, -2 * ONE, 786432, 5242880);
        says("/: a HOLE where g ^ 2 is 0 down");
        slopeHole("0/x", 1023, 1023);
        slopeHole("0/x", -1023, -1023);
        slope("0/x", 1024, 1024, 0, 0);
        slope("0/x", -1024, -1024, 0, 0);
        slopeHole("0/x", 0, 1024);
    }

    private void slopesOfPowers() {
        says("^ n: of 1 f'");
        slope("x^1", MIN, MAX, ONE, ONE);
        slope("(x^2)^1", -ONE, 2 * ONE, -2 * ONE, 4 * ONE);
        says("^ n: else ([n] * (f ^ (n - 1))) * f'");
        slope("x^2", -ONE, 2 * ONE, -2 * ONE, 4 * ONE);
        slope("x^3", -ONE, 2 * ONE, 0, 12 * ONE);
        slope("x^3", 1000, 1000, 0, 3);
        slope("x^3", -1025, -1025, 3, 6);
        slope("x^4", -1000, 1000, -4, 4);
        slope("x^9", ONE, ONE, 9 * ONE, 9 * ONE);
        slope("(2*x)^2", 1, 1, 8, 8);
        slope("(x-x)^2", -ONE, ONE, 0, 0);
        says("^ n: [n] * (f ^ (n - 1)) beyond is a HOLE, though f' is small");
        value("(x/32)^9", 77175194, 77175194, 1888639550, 1888646981);
        slopeHole("(x/32)^9", 77175194, 77175194);
        slope("(x/32)^9", 48 * ONE, 48 * ONE, 7558272, 7558272);
    }

    private void slopesOfNames() {
        says("root: f' / ([2] * root f)");
        slope("root(x)", ONE / 4, ONE, ONE / 2, ONE);
        slope("root(x)", 1, 1, 536870912, 536870912);
        slope("root(x)", 1, 2, 379403598, 536870912);
        slope("root(4*x)", 4 * ONE, 4 * ONE, ONE / 2, ONE / 2);
        slopeHole("root(x)", 0, 0);
        slopeHole("root(x)", 0, ONE);
        says("exp: exp f * f'");
        slope("exp(x)", 0, 0, ONE, ONE + 1);
        slope("exp(2*x)", ONE, ONE + 1, 15495972, 15496018);
        says("log: f' / f");
        slope("log(x)", ONE, 2 * ONE, ONE / 2, ONE);
        slope("log(x)", 1000, 1000, 1099511627, 1099511628);
        slope("log(3*x)", 1000, 1005, 1094041420, 1099511628);
        slopeHole("log(x)", 512, 512);
        says("sin: cos f * f'");
        slope("sin(x)", 0, 0, ONE - 1, ONE);
        slope("sin(2*x)", 1000, 1003, 2097140, 2097152);
        slope("sin(x)", MIN, MAX, -ONE, ONE);
        says("cos: - ahead of (sin f * f')");
        slope("cos(x)", 0, 0, -1, 1);
        slope("cos(x)", 1, 1, -2, 0);
        slope("cos(2*x)", 1000000, 1000003, -1979506, -1979488);
    }

    private void slopesOfSizes() {
        says("size: f' if a is not below 0");
        slope("size(x)", 0, 5, ONE, ONE);
        slope("size(x)", 0, 0, ONE, ONE);
        slope("size(2*x+1)", 5, 7, 2 * ONE, 2 * ONE);
        says("size: else - ahead of f' if b is not above 0");
        slope("size(x)", -5, 0, -ONE, -ONE);
        slope("size(x)", -5, -1, -ONE, -ONE);
        slope("size(x^2-5)", ONE, 2 * ONE, -4 * ONE, -2 * ONE);
        says("size: else both TOGETHER");
        slope("size(x)", -1, 1, -ONE, ONE);
        slope("size(3*x)", -5, 1, -3 * ONE, 3 * ONE);
        slope("size(-x^2)", -ONE, 2 * ONE, -2 * ONE, 4 * ONE);
        slope("size(x^2-2)", ONE, 2 * ONE, -4 * ONE, 4 * ONE);
        says("size: TOGETHER with a HOLE: a HOLE");
        slopeHole("size(root(x)-1)", 0, 2 * ONE);
        slopeHole("size(root(x))", 0, 2 * ONE);
        slopeHole("size(-1024*x-1024*x)", -5, 5);
        slope("size(-1024*x-1024*x)", -5, 0, MIN, MIN);
    }

    private void slopesOfChoices() {
        says("lesser: of the first, if its HIGH is not above the second's LOW");
        slope("lesser(x,1)", ONE - 5, ONE, ONE, ONE);
        slope("lesser(x,1)", ONE, ONE, ONE, ONE);
        slope("lesser(1,x)", ONE, ONE + 5, 0, 0);
        slope("lesser(x-2,root(x-1))", ONE, ONE, ONE, ONE);
        says("lesser: else of the second, if its HIGH is not above the first's LOW");
        slope("lesser(x,1)", ONE + 1, ONE + 5, 0, 0);
        slope("lesser(x,1)", ONE, ONE + 5, 0, 0);
        slope("lesser(1,x)", ONE - 5, ONE, ONE, ONE);
        slope("lesser(root(x-1)+2,x)", ONE, ONE, ONE, ONE);
        says("lesser: else both TOGETHER");
        slope("lesser(x,1)", ONE - 5, ONE + 1, 0, ONE);
        slope("lesser(1,2*x)", 0, ONE, 0, 2 * ONE);
        slope("lesser(2*x,-3*x)", -1, 1, -3 * ONE, 2 * ONE);
        slopeHole("lesser(x-1,root(x-1))", ONE, ONE + 9);
        slopeHole("lesser(root(x-1),x-1)", ONE, ONE + 9);
        says("greater: likewise, the first if its LOW is not below the second's HIGH");
        slope("greater(x,1)", ONE, ONE + 5, ONE, ONE);
        slope("greater(x,1)", ONE, ONE, ONE, ONE);
        slope("greater(1,x)", ONE - 5, ONE, 0, 0);
        slope("greater(x,root(x-1))", ONE, ONE, ONE, ONE);
        slopeHole("greater(x-2,root(x-1))", ONE, ONE);
        says("greater: and so on");
        slope("greater(x,1)", ONE - 5, ONE - 1, 0, 0);
        slope("greater(x,1)", ONE - 5, ONE, 0, 0);
        slope("greater(1,x)", ONE, ONE + 5, ONE, ONE);
        slope("greater(root(x-1)-2,x)", ONE, ONE, ONE, ONE);
        slope("greater(x,1)", ONE - 1, ONE + 5, 0, ONE);
        slope("greater(1,2*x)", 0, ONE, 0, 2 * ONE);
        slope("greater(2*x,-3*x)", -1, 1, -3 * ONE, 2 * ONE);
        slopeHole("greater(x-1,root(x-1))", ONE, ONE + 9);
        slopeHole("greater(root(x-1),x-1)", ONE, ONE + 9);
    }

    private void slopesOfCurves() {
        says("CURVES: theirs");
        ShutBench bench = with("x^2", "c0", "c0*x", "sin(c0)", "9999", "0*c4", "root(x)", "lesser(-1,c6)");
        slopeOf(bench, 1, -ONE, 2 * ONE, -2 * ONE, 4 * ONE);
        slopeOf(bench, 2, ONE, ONE, 3 * ONE, 3 * ONE);
        slopeOf(bench, 3, 0, 0, 0, 0);
        checks.due("slope", bench.slope(4, 0, 0), 1);
        checks.due("slope", bench.slope(5, 0, 0), 1);
        checks.due("slope", bench.slope(6, 0, 0), 1);
        slopeOf(bench, 7, 0, ONE, 0, 0);
        checks.due("slope", bench.slope(7, -1, ONE), 1);
        bench = with("x^2", "3*x", "c1", "c2+c0", "c3", "c4*1");
        slopeOf(bench, 2, 5, 5, 3 * ONE, 3 * ONE);
        slopeOf(bench, 3, ONE, ONE, 5 * ONE, 5 * ONE);
        slopeOf(bench, 0, 0, 0, 0, 0);
        slopeOf(bench, 5, 2 * ONE, 2 * ONE, 7 * ONE, 7 * ONE);
    }

    private void slope() {
        says("slope: that of the slope likewise: 0, low() and high() have it");
        ShutBench bench = with("2*x", "root(x)");
        slopeOf(bench, 0, -5, 9, 2 * ONE, 2 * ONE);
        slopeOf(bench, 0, 9, 9, 2 * ONE, 2 * ONE);
        says("slope: likewise 1 a HOLE");
        checks.due("slope", bench.slope(1, -1, 1), 1);
        checks.due("slope", bench.slope(1, 0, 0), 1);
        checks.dueShut("slope", bench, 2 * ONE, 2 * ONE);
        says("slope: likewise NONE, and nothing happens, without the CURVE");
        for (int curve : new int[] {2, 8, -1, MIN, MAX}) {
            checks.due("slope(" + curve, bench.slope(curve, 1, 2), -1);
            checks.dueShut("slope", bench, 2 * ONE, 2 * ONE);
        }
        says("slope: likewise NONE, and nothing happens, if a is above b");
        checks.due("slope", bench.slope(0, 1, 0), -1);
        checks.due("slope", bench.slope(0, MAX, MIN), -1);
        checks.dueShut("slope", bench, 2 * ONE, 2 * ONE);
    }
}
