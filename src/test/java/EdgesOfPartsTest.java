/** The edges of PARTS of a span and of AREA, and of promises 9 to 17. */
public final class EdgesOfPartsTest extends Edges {
    /** 3294000 RAW, not far below half a turn, where sin goes down as fast as x up. */
    private static final int BEND = 3294000;
    /** Told over [BEND, BEND + 10], but not over its second half: the LOW of sin is 188, and 187 there. */
    private static final String HOLED_HALF = "root(sin(x)-188/1024/1024)";
    /** Told over [BEND - 2, BEND + 2], but not at its middle: the LOW of sin is 198, and 197 there. */
    private static final String HOLED_MIDDLE = "root(sin(lesser(x,3+144/1024+816/1024/1024))-198/1024/1024)";

    EdgesOfPartsTest(Checks checks) {
        super(checks);
    }

    public static void main(String[] args) {
        Checks checks = new Checks();
        new EdgesOfPartsTest(checks).ask();
        checks.close("EdgesOfPartsTest");
    }

    @Override
    void ask() {
        middles();
        sums();
        sumsOfTheShutAlone();
        sumsOfManyParts();
        halvedParts();
        areaEnds();
        areaOfHoles();
        areaRefused();
        rootsWithout();
        rootsWithOne();
        rootsOpen();
        rootsOfManyParts();
        rootsInTurn();
        rootsRefused();
        part();
        least();
        leastHalved();
        leastOfHoles();
        leastRefused();
        greatest();
        greatestRefused();
        neverBroken();
        neverInTurn();
        neverUntold();
        neverRefused();
        lowAndHigh();
        count();
    }

    private void area(String text, int[] span, int halvings, long near, long low, long high, int parts) {
        ShutBench bench = with(text);
        String call = "area() of " + text + " over " + span[0] + ", " + span[1] + ", " + halvings + ", " + near;
        checks.due(call, bench.area(0, span[0], span[1], halvings, near), 0);
        checks.dueShut(call, bench, low, high);
        checks.due(call + " parts", bench.count(2), parts);
    }

    private static int[] span(int a, int b) {
        return new int[] {a, b};
    }

    /** Each part of the roots: begin, end, what. */
    private void roots(String text, int a, int b, int narrow, int... due) {
        rootsOf(with(text), a, b, narrow, due);
    }

    private void rootsOf(ShutBench bench, int a, int b, int narrow, int... due) {
        String call = "roots(0, " + a + ", " + b + ", " + narrow + ")";
        checks.due(call, bench.roots(0, a, b, narrow), due.length / 3);
        checks.due(call + " count(4)", bench.count(4), due.length / 3);
        for (int i = 0; i < due.length; i++) {
            checks.due(call + " part(" + i / 3 + ", " + i % 3 + ")", bench.part(i / 3, i % 3), due[i]);
        }
    }

    private void extreme(boolean least, String text, int[] span, int halvings, long low, long high, int parts) {
        ShutBench bench = with(text);
        String call = (least ? "least() of " : "greatest() of ") + text + " over " + span[0] + ", " + span[1];
        int told = least ? bench.least(0, span[0], span[1], halvings) : bench.greatest(0, span[0], span[1], halvings);
        checks.due(call, told, 0);
        checks.dueShut(call, bench, low, high);
        checks.due(call + " parts", bench.count(2), parts);
    }

    private void least(String text, int a, int b, int halvings, long low, long high, int parts) {
        extreme(true, text, span(a, b), halvings, low, high, parts);
    }

    private void greatest(String text, int a, int b, int halvings, long low, long high, int parts) {
        extreme(false, text, span(a, b), halvings, low, high, parts);
    }

    private void never(String text, int[] span, int bound, int most, int due, int looks) {
        neverOf(with(text), span, bound, most, due, looks);
    }

    private void neverOf(ShutBench bench, int[] span, int bound, int most, int due, int looks) {
        String call = "never(0, " + span[0] + ", " + span[1] + ", " + bound + ", " + most + ")";
        checks.due(call, bench.never(0, span[0], span[1], bound, most), due);
        checks.due(call + " count(3)", bench.count(3), looks);
    }

    private void broken(String text, int[] span, int bound, int most, int place, int looks) {
        ShutBench bench = with(text);
        neverOf(bench, span, bound, most, 0, looks);
        checks.dueShut("never() of " + text, bench, place, place);
    }

    // ---- IV

    private void middles() {
        says("two at its middle: the first from its begin to its begin and end by 2, down, the second from there");
        roots("x-x", 0, 2, 1, 0, 1, 2, 1, 2, 2);
        roots("x-x", 0, 3, 2, 0, 1, 2, 1, 3, 2);
        roots("x-x", -3, 0, 2, -3, -2, 2, -2, 0, 2);
        roots("x-x", -1, 2, 2, -1, 0, 2, 0, 2, 2);
        roots("x-x", -2, 1, 2, -2, -1, 2, -1, 1, 2);
        roots("x-x", MIN, MAX, MAX, MIN, -1, 2, -1, 1073741823, 2, 1073741823, MAX, 2);
        roots("x-x", MAX - 2, MAX, 1, MAX - 2, MAX - 1, 2, MAX - 1, MAX, 2);
        roots("x-x", MIN, MIN + 3, 2, MIN, MIN + 1, 2, MIN + 1, MIN + 3, 2);
    }

    private void sums() {
        says("the SUM of a part: the SHUT over [m down, m up], m = p + q by 2");
        area("x", span(4, 7), 0, 0, 0, 1, 1);
        area("x", span(-7, -4), 0, 0, -1, 0, 1);
        area("x", span(-3, 0), 0, 0, -1, 0, 1);
        area("x*1000", span(4, 7), 0, 0, 0, 1, 1);
        area("x*2047", span(1001, 2000), 0, 0, 2925, 2928, 1);
        area("x*2047", span(-2000, -1001), 0, 0, -2928, -2925, 1);
        area("x*2047", span(1000, 2000), 0, 0, 2928, 2929, 1);
        says("the SUM of a part: LOW times w by 2^20, down, HIGH times w by 2^20, up");
        area("x", span(0, 1), 0, 0, 0, 1, 1);
        area("x", span(-1, 0), 0, 0, -1, 0, 1);
        area("x", span(0, 2 * ONE), 0, 0, 2 * ONE, 2 * ONE, 1);
        says("the SUM of a part: less d, and d, where d = e * w by 2^23, up; e = (t - s) * w by 2^20, up");
        // The slope is [0, 6]: e is 18 by 2^20, 1; d is 3 by 2^23, 1.
        area("x^2", span(0, 3), 0, 0, -1, 2, 1);
        // e is 2^21, d 2^18, the SHUT in the midst 2^18.
        area("x^2", span(0, ONE), 0, 0, 0, ONE / 2, 1);
        area("x^2-2*x", span(0, ONE), 0, 0, -ONE, -ONE / 2, 1);
        area("1/x", span(ONE, 3 * ONE), 0, 0, ONE - 466034, ONE + 466034, 1);
        area("size(x)", span(-4 * ONE, 4 * ONE), 0, 0, -16 * ONE, 16 * ONE, 1);
        says("(64 bits.)");
        area("2047", span(0, 1073741824), 0, 0, 2047L << 30, 2047L << 30, 1);
        area("x", span(MIN, MIN + 1073741824), 0, 0, -1649267441664L, -1649267441664L, 1);
        area("x", span(MAX - 1073741824, MAX), 0, 0, 1649267440640L, 1649267440640L, 1);
    }

    private void sumsOfTheShutAlone() {
        says("if the slope [s, t] over it is told; else the SHUT over [p, q] alone");
        area("root(x)", span(0, ONE), 0, 0, 0, ONE, 1);
        area("root(x)+0.5", span(0, 4 * ONE), 0, 0, 2 * ONE, 10 * ONE, 1);
        area("-root(x)", span(0, 3), 0, 0, -1, 0, 1);
        says("and the SHUT over [m down, m up]; else the SHUT over [p, q] alone");
        ShutBench bench = with("lesser(0-1," + HOLED_MIDDLE + ")");
        slopeOf(bench, 0, BEND - 2, BEND + 2, 0, 0);
        checks.due("at the middle", bench.at(0, BEND, BEND), 1);
        checks.due("area", bench.area(0, BEND - 2, BEND + 2, 0, 0), 0);
        checks.dueShut("area", bench, -4, -4);
        says("and e is not above 2147483647; else the SHUT over [p, q] alone");
        // The slope is [0, 2.1875]: e is 2147483647 over the first span, 2147483652 over the second one.
        area("greater(2.1875*x,0)", span(-490853405, 490853405), 0, 0, -251316943243L, 251316943243L, 1);
        area("greater(2.1875*x,0)", span(-490853406, 490853406), 0, 0, 0, 1005267777361L, 1);
        area("x^2", span(0, 45 * ONE), 0, 0, 0, 45L * 45 * 45 * ONE, 1);
    }

    private void sumsOfManyParts() {
        says("All together: from the sum of all LOWS to that of all HIGHS");
        area("size(x)", span(-ONE, ONE), 1, 0, ONE, ONE, 2);
        area("exp(x)", span(0, ONE), 2, 0, 1761777, 1821822, 3);
        area("exp(x)", span(0, ONE), 3, 0, 1782986, 1811146, 4);
        says("of what is so from time to time AREA is the greatest LOW and the least HIGH");
        // From time to time: -1 to 2, -2 to 4, -3 to 6, -4 to 8, -5 to 10.
        area("x^3", span(18, 38), 1, 0, -1, 2, 2);
        area("x^3", span(18, 38), 4, 0, -1, 2, 5);
        // -1 to 2, -1 to 3, -1 to 4, -1 to 4, 0 to 5.
        area("size(x)", span(-12, 6), 3, 0, -1, 2, 4);
        area("size(x)", span(-12, 6), 4, 0, 0, 2, 5);
        area("-size(x)", span(-12, 6), 3, 0, -2, 1, 4);
        area("-size(x)", span(-12, 6), 4, 0, -2, 0, 5);
        // The greatest LOW is of three halvings, the least HIGH of four.
        area("lesser(size(x-1),size(x+2))", span(-917504, 2097152), 3, 0, 1990144, 2531840, 4);
        area("lesser(size(x-1),size(x+2))", span(-917504, 2097152), 4, 0, 1990144, 2306624, 5);
    }

    private void halvedParts() {
        says("Each halving: the part whose SUM is widest");
        area("exp(x)", span(0, ONE), 10, 0, 1798789, 1803236, 11);
        area("x*size(x)", span(-1572864, 1179648), 6, 0, -824607, -567945, 7);
        says("of several the first one along the span");
        // [4, 5] and [5, 7] are as wide: the first one, which is 1 wide, ends it.
        area("size(x)", span(4, 7), 5, 0, 0, 1, 2);
        area("x^3", span(18, 38), 7, 0, -1, 2, 5);
        // The first one along the span, not the first one that came.
        area("greater(x,0)", span(-10, 6), 6, 0, 0, 1, 5);
        area("greater(x,0)", span(-2, 16), 6, 0, 0, 2, 5);
    }

    // ---- 9

    private void areaEnds() {
        says("with at most so many halvings (0 to 200)");
        area("x^3", span(-9 * ONE, 9 * ONE), 0, 0, -729L * 18 * ONE, 729L * 18 * ONE, 1);
        area("x^3", span(-9 * ONE, 9 * ONE), 200, 0, -481911, 477991, 201);
        says("until HIGH less LOW is not above near");
        area("size(x)", span(-ONE, ONE), 9, 2 * ONE, -ONE, ONE, 1);
        area("size(x)", span(-ONE, ONE), 9, 2 * ONE - 1, ONE, ONE, 2);
        area("size(x)", span(-ONE, ONE), 200, Long.MAX_VALUE, -ONE, ONE, 1);
        area("x", span(0, 2 * ONE), 200, 0, 2 * ONE, 2 * ONE, 1);
        area("exp(x)", span(0, ONE), 200, 1000, 1801099, 1802090, 24);
        says("until HIGH less LOW is not above near: those of AREA, from time to time");
        area("size(x)", span(-9, 3), 1, 2, -1, 2, 2);
        area("size(x)", span(-9, 3), 6, 2, 0, 2, 3);
        says("or the part to halve is 1 wide");
        area("x", span(0, 1), 200, 0, 0, 1, 1);
        area("size(x)", span(4, 7), 200, 0, 0, 1, 2);
        area("x^3", span(18, 38), 200, 0, -1, 2, 5);
    }

    private void areaOfHoles() {
        says("1: the SHUT over a part alone is a HOLE");
        ShutBench bench = with("1/x", "1/(x*x-x+4)", HOLED_HALF, "x");
        checks.due("area", bench.area(3, 0, 2 * ONE, 0, 0), 0);
        checks.due("area", bench.area(0, -ONE, ONE, 200, 0), 1);
        checks.due("area", bench.area(0, 0, ONE, 0, Long.MAX_VALUE), 1);
        checks.dueShut("area", bench, 2 * ONE, 2 * ONE);
        checks.due("parts", bench.count(2), 1);
        says("asked of each part as it comes: of the first one, though its halves were told");
        checks.due("area", bench.area(1, -3 * ONE, 3 * ONE, 200, 0), 1);
        checks.due("area", bench.area(1, -3 * ONE, 0, 0, 0), 0);
        checks.due("area", bench.area(1, 0, 3 * ONE, 0, 0), 0);
        says("asked of each part as it comes: of a half, though all was told");
        checks.due("area", bench.area(2, BEND, BEND + 10, 0, 0), 0);
        checks.dueShut("area", bench, 0, 1);
        checks.due("near enough", bench.area(2, BEND, BEND + 10, 1, 1), 0);
        checks.due("area", bench.area(2, BEND, BEND + 10, 1, 0), 1);
        checks.due("its first half", bench.at(2, BEND, BEND + 5), 0);
        checks.due("its second half", bench.at(2, BEND + 5, BEND + 10), 1);
        checks.due("parts", bench.count(2), 1);
    }

    private void areaRefused() {
        ShutBench bench = with("x", "2");
        checks.due("area", bench.area(1, 0, 2, 1, 0), 0);
        says("area: NONE likewise, if b - a is not 1 to 1073741824");
        int[][] spans = {{0, 0}, {1, 0}, {MAX, MAX}, {MAX, MIN}, {0, -1073741824}, {0, 1073741825}, {-1, 1073741824},
            {MIN, MAX}, {MIN, -1073741823}, {MIN, 0}, {-1073741825, 1073741824}};
        for (int[] span : spans) {
            checks.due("area over " + span[0] + ", " + span[1], bench.area(0, span[0], span[1], 0, 0), -1);
        }
        says("area: NONE likewise, for other numbers of halvings");
        for (int halvings : new int[] {-1, 201, MIN, MAX}) {
            checks.due("area, " + halvings, bench.area(0, 0, 1, halvings, 0), -1);
        }
        says("area: NONE likewise, near below 0");
        checks.due("area", bench.area(0, 0, 1, 0, -1), -1);
        checks.due("area", bench.area(0, 0, 1, 0, Long.MIN_VALUE), -1);
        says("area: NONE likewise, without the CURVE");
        for (int curve : new int[] {2, 8, -1, MIN, MAX}) {
            checks.due("area(" + curve, bench.area(curve, 0, 1, 0, 0), -1);
        }
        says("area: NONE, and nothing happens");
        checks.dueShut("area", bench, 4, 4);
        checks.due("parts", bench.count(2), 1);
        says("area: b - a of 1 and of 1073741824, halvings of 0 and of 200, near of 0");
        checks.due("area", bench.area(1, 0, 1, 0, 0), 0);
        checks.dueShut("area", bench, 2, 2);
        checks.due("area", bench.area(1, -536870912, 536870912, 200, 0), 0);
        checks.dueShut("area", bench, 2147483648L, 2147483648L);
        checks.due("area", bench.area(1, MIN, -1073741824, 200, Long.MAX_VALUE), 0);
    }

    // ---- 10

    private void rootsWithout() {
        says("NONE (0) if its SHUT is told and has no 0");
        roots("x", 1, 2, 1, 1, 2, 0);
        roots("x", -2, -1, 1, -2, -1, 0);
        roots("x", 0, 1, 1, 0, 1, 2);
        roots("x", -1, 0, 1, -1, 0, 2);
        roots("x", 1, MAX, 1, 1, MAX, 0);
        roots("x", MIN, -1, 1, MIN, -1, 0);
        says("NONE (0) if its SHUT is told: a HOLE is OPEN");
        roots("1/x", 1, 2, 1, 1, 2, 2);
        roots("0-1/x^2", -1, 1, 5, -1, 1, 2);
        roots("9999", 0, 1, 1, 0, 1, 2);
    }

    private void rootsWithOne() {
        says("ONE (1) if its slope is told and has no 0, and of the SHUTS at both ends one is wholly below 0, the other above");
        roots("x", -1, 1, 1, -1, 1, 1);
        roots("-x", -1, 1, 1, -1, 1, 1);
        roots("x", MIN, MAX, 1, MIN, MAX, 1);
        roots("x", -1, MAX, 1, -1, MAX, 1);
        roots("-x", MIN + 1, 1, 1, MIN + 1, 1, 1);
        roots("size(x)-1", -2 * ONE, 2 * ONE, 1, -2 * ONE, 0, 1, 0, 2 * ONE, 1);
        says("ONE: its slope is told");
        roots("root(x)-0.5", 0, ONE, ONE, 0, ONE, 2);
        says("ONE: its slope has no 0");
        roots("size(x)-1", -ONE / 2, 2 * ONE, 3 * ONE, -ONE / 2, 2 * ONE, 2);
        roots("x^3", -ONE, ONE, 2 * ONE, -ONE, ONE, 2);
        roots("greater(x,0)-1", -ONE, 2 * ONE, 3 * ONE, -ONE, 2 * ONE, 2);
        says("ONE: one wholly below 0, the other one wholly above");
        roots("x", 0, 5, 5, 0, 5, 2);
        roots("x", -5, 0, 5, -5, 0, 2);
        roots("-x", 0, 5, 5, 0, 5, 2);
        roots("-x", -5, 0, 5, -5, 0, 2);
        roots("x", 0, 5, 1, 0, 1, 2, 1, 5, 0);
        roots("x", -5, 0, 1, -5, -1, 0, -1, 0, 2);
        // Both ends above 0, the SHUT over all not: the slope of x + (x - x) is told as [1, 1].
        roots("x+(x-x)", 3, 10, 7, 3, 10, 2);
        roots("x+(x-x)", -10, -3, 7, -10, -3, 2);
        roots("x+(x-x)", 3, 10, 3, 3, 6, 2, 6, 10, 0);
        says("ONE: the SHUTS at both ends, each alone");
        roots("x", -1, 1, 2, -1, 1, 1);
        roots("-x", -1, 1, 2, -1, 1, 1);
        roots("x+0.0001-0.0001", -1, 2, 3, -1, 2, 2);
        roots("x+0.0001-0.0001", -2, 2, 4, -2, 2, 1);
        roots("0.0001-0.0001-x", -2, 1, 4, -2, 1, 2);
        roots("0.0001-0.0001-x", -2, 2, 4, -2, 2, 1);
    }

    private void rootsOpen() {
        says("OPEN (2) if it is not wider than narrow (1 and more)");
        roots("x", 0, 5, 5, 0, 5, 2);
        roots("x", 0, 5, 4, 0, 2, 2, 2, 5, 0);
        roots("x", 0, 5, MAX, 0, 5, 2);
        roots("x", 0, 1, 1, 0, 1, 2);
        roots("x-x", 0, 4, 1, 0, 1, 2, 1, 2, 2, 2, 3, 2, 3, 4, 2);
        roots("x-x", 0, 4, 2, 0, 2, 2, 2, 4, 2);
        roots("x-x", 0, 4, 3, 0, 2, 2, 2, 4, 2);
        roots("x-x", 0, 4, 4, 0, 4, 2);
        roots("x-x", -5, 2147483642, MAX, -5, 2147483642, 2);
        roots("x-x", -6, 2147483642, MAX, -6, 1073741818, 2, 1073741818, 2147483642, 2);
        says("its width is b - a, however far they are apart");
        roots("x-x", MIN, MAX, MAX, MIN, -1, 2, -1, 1073741823, 2, 1073741823, MAX, 2);
        says("OPEN is what is neither NONE nor ONE: however narrow it is");
        roots("x", 3, 4, 100, 3, 4, 0);
        roots("x", -3, 4, 100, -3, 4, 1);
    }

    private void rootsOfManyParts() {
        says("or the parts told and those that wait (but it) are 59 or more");
        ShutBench bench = with("x-x", "x-x+0.001");
        checks.due("59 parts of 1", bench.roots(0, 0, 59, 1), 59);
        checks.due("60 parts of 1", bench.roots(0, 0, 60, 1), 60);
        for (int k = 0; k < 60; k++) {
            checks.due("begin of " + k, bench.part(k, 0), k);
            checks.due("end of " + k, bench.part(k, 1), k + 1);
            checks.due("what is " + k, bench.part(k, 2), 2);
        }
        checks.due("61 parts of 1", bench.roots(0, 0, 61, 1), 60);
        checks.due("begin of the last", bench.part(59, 0), 59);
        checks.due("end of the last", bench.part(59, 1), 61);
        checks.due("end of the last but one", bench.part(58, 1), 59);
        checks.due("64 parts of 1", bench.roots(0, 0, 64, 1), 60);
        checks.due("end of 57", bench.part(57, 1), 58);
        checks.due("end of 58", bench.part(58, 1), 60);
        checks.due("end of 59", bench.part(59, 1), 64);
        checks.due("128 parts of 1", bench.roots(0, 0, 128, 1), 60);
        checks.due("end of 57", bench.part(57, 1), 60);
        checks.due("end of 58", bench.part(58, 1), 64);
        checks.due("end of 59", bench.part(59, 1), 128);
        checks.due("part 60", bench.part(60, 1), 0);
        says("A NONE one behind a NONE one is one with it: one of the parts told");
        checks.due("128 parts without", bench.roots(1, 0, 1 << 17, 1), 1);
        checks.due("its end", bench.part(0, 1), 1 << 17);
        checks.due("what it is", bench.part(0, 2), 0);
    }

    private void rootsInTurn() {
        says("parts one behind the other; it becomes two, which wait ahead of the others");
        roots("x", 0, 64, 1, 0, 1, 2, 1, 64, 0);
        // Its slope is a HOLE.
        roots("x-7/1024/1024", 0, 16, 1, 0, 6, 0, 6, 7, 2, 7, 8, 2, 8, 16, 0);
        roots("x^2-1/1024/1024", -8 * ONE, 8 * ONE, ONE, -8 * ONE, -ONE, 0, -ONE, 0, 2, 0, ONE, 2, ONE, 8 * ONE, 0);
        says("A NONE one behind a NONE one is one with it: not behind another one");
        roots("x^2-2", -4 * ONE, 4 * ONE, 1, -4 * ONE, -2 * ONE, 0, -2 * ONE, -ONE, 1, -ONE, ONE, 0,
                ONE, 2 * ONE, 1, 2 * ONE, 4 * ONE, 0);
    }

    private void rootsRefused() {
        ShutBench bench = with("x", "2");
        rootsOf(bench, 0, 4, 1, 0, 1, 2, 1, 4, 0);
        says("roots: NONE likewise, also if a is b");
        checks.due("roots", bench.roots(0, 5, 5, 1), -1);
        checks.due("roots", bench.roots(0, MIN, MIN, 1), -1);
        says("roots: NONE likewise: if a is above b");
        checks.due("roots", bench.roots(0, 5, 4, 1), -1);
        checks.due("roots", bench.roots(0, MAX, MIN, 1), -1);
        says("roots: NONE likewise, narrow below 1");
        for (int narrow : new int[] {0, -1, MIN}) {
            checks.due("roots, " + narrow, bench.roots(0, 0, 4, narrow), -1);
        }
        says("roots: NONE likewise: without the CURVE");
        for (int curve : new int[] {2, 8, -1, MIN, MAX}) {
            checks.due("roots(" + curve, bench.roots(curve, 0, 4, 1), -1);
        }
        says("roots: NONE, and nothing happens");
        checks.due("count(4)", bench.count(4), 2);
        checks.due("part(1, 1)", bench.part(1, 1), 4);
        checks.due("part(0, 2)", bench.part(0, 2), 2);
    }

    // ---- 11

    private void part() {
        says("Part k of the latest roots() that was not NONE: 0 without such");
        ShutBench bench = with("x", "1");
        checks.due("ahead of any", bench.part(0, 0), 0);
        checks.due("ahead of any", bench.part(0, 1), 0);
        checks.due("ahead of any", bench.part(0, 2), 0);
        checks.due("roots", bench.roots(0, -7, 9, 1), 1);
        says("what 0: its begin, 1: its end, 2: what it is");
        checks.due("begin", bench.part(0, 0), -7);
        checks.due("end", bench.part(0, 1), 9);
        checks.due("what", bench.part(0, 2), 1);
        says("0 without such: another k");
        for (int k : new int[] {1, 2, 59, 60, 61, -1, MIN, MAX}) {
            for (int what = 0; what < 3; what++) {
                checks.due("part(" + k + ", " + what + ")", bench.part(k, what), 0);
            }
        }
        says("0 without such: another what");
        for (int what : new int[] {3, -1, MIN, MAX}) {
            checks.due("part(0, " + what + ")", bench.part(0, what), 0);
        }
        says("0 without such: what an earlier roots() had more");
        rootsOf(bench, -5, 0, 1, -5, -1, 0, -1, 0, 2);
        rootsOf(bench, 3, 4, 1, 3, 4, 0);
        checks.due("part(1, 0)", bench.part(1, 0), 0);
        checks.due("part(1, 2)", bench.part(1, 2), 0);
        says("of the latest roots() that was not NONE");
        checks.due("roots", bench.roots(0, 4, 4, 1), -1);
        checks.due("part(0, 1)", bench.part(0, 1), 4);
        bench.drop();
        bench.drop();
        checks.due("part(0, 1)", bench.part(0, 1), 4);
    }

    // ---- 12

    private void least() {
        says("from the least LOW of all parts to the least HIGH that the SHUT at a part's middle (down; alone) has");
        least("x", -3, 9, 0, -3, 3, 1);
        least("x", -3, 10, 0, -3, 3, 1);
        least("x", -10, 3, 0, -10, -4, 1);
        least("x", -3, 9, 1, -3, 0, 2);
        least("-x", -3, 9, 1, -9, -6, 2);
        least("x^2", -2 * ONE, 4 * ONE, 0, 0, ONE, 1);
        says("0 halvings, a may be b");
        least("x", 4, 4, 0, 4, 4, 1);
        least("x", MIN, MIN, 200, MIN, MIN, 1);
        least("x", MAX, MAX, 200, MAX, MAX, 1);
        says("least: a part's middle: of the parts that there are");
        least("size(x)", -4, 4, 0, 0, 0, 1);
        least("size(x)", -4, 4, 1, 0, 2, 2);
        least("size(x)", -4, 4, 2, 0, 1, 3);
    }

    private void leastHalved() {
        says("each time the part with the least LOW becomes two");
        least("x", -3, 9, 2, -3, -2, 3);
        least("-x", -3, 9, 2, -9, -7, 3);
        // The widest part has the least LOW.
        least("x-x", 0, 7, 3, -2, 0, 4);
        least("x", MIN, MAX, 31, MIN, MIN, 32);
        says("of several the first one along the span");
        least("x^2", -7, -1, 3, 0, 1, 3);
        least("x^3", -19, -8, 5, -1, 0, 4);
        least("size(x)", -17, 6, 5, 0, 1, 6);
        least("size(x)", -2, 17, 6, 0, 1, 5);
        least("(x^2-1)^2", -1310720, 1703936, 5, 0, 2774, 6);
        says("if it is 2 wide or more (else it ends)");
        least("x", 4, 5, 200, 4, 4, 1);
        least("x", 4, 6, 200, 4, 4, 2);
        least("x", 4, 7, 200, 4, 4, 2);
        least("x", -3, 9, 200, -3, -3, 4);
        least("x", MIN, MAX, 200, MIN, MIN, 32);
        says("with so many halvings (0 to 200)");
        ShutBench bench = with("x-x");
        checks.due("least", bench.least(0, 0, 4 * ONE, 200), 0);
        checks.due("parts", bench.count(2), 201);
        checks.due("least", bench.least(0, 0, 4 * ONE, 199), 0);
        checks.due("parts", bench.count(2), 200);
    }

    private void leastOfHoles() {
        says("1 if a part's SHUT is a HOLE");
        ShutBench bench = with("1/x", "1/(x*x-x+4)", HOLED_HALF, HOLED_MIDDLE, "x");
        checks.due("least", bench.least(4, 2, 8, 0), 0);
        checks.due("least", bench.least(0, 0, ONE, 5), 1);
        checks.due("least", bench.least(0, 0, 0, 0), 1);
        says("1 if a part's SHUT is a HOLE, though its middle's is told");
        checks.due("least", bench.least(1, -3 * ONE, 3 * ONE, 200), 1);
        checks.due("at", bench.at(1, 0, 0), 0);
        bench.least(4, 2, 8, 0);
        says("1 if its middle's is a HOLE");
        checks.due("least", bench.least(3, BEND - 2, BEND + 2, 0), 1);
        checks.due("greatest", bench.greatest(3, BEND - 2, BEND + 2, 0), 1);
        checks.dueShut("nothing is told", bench, 2, 5);
        checks.due("parts", bench.count(2), 1);
        checks.due("all of it", bench.at(3, BEND - 2, BEND + 2), 0);
        checks.due("its first half", bench.least(3, BEND - 2, BEND, 0), 0);
        checks.dueShut("its first half", bench, 0, 1774);
        says("asked of each part as it comes");
        checks.due("least", bench.least(2, BEND, BEND + 10, 0), 0);
        checks.dueShut("least", bench, 0, 2710);
        checks.due("least", bench.least(2, BEND, BEND + 10, 1), 1);
        checks.due("greatest", bench.greatest(2, BEND, BEND + 10, 0), 0);
        checks.due("greatest", bench.greatest(2, BEND, BEND + 10, 1), 1);
    }

    private void leastRefused() {
        ShutBench bench = with("x", "2");
        checks.due("least", bench.least(0, 2, 8, 1), 0);
        for (boolean least : new boolean[] {true, false}) {
            String name = least ? "least" : "greatest";
            says(name + ": for other numbers of halvings (0 to 200)");
            for (int halvings : new int[] {-1, 201, MIN, MAX}) {
                checks.due(name, least ? bench.least(0, 0, 1, halvings) : bench.greatest(0, 0, 1, halvings), -1);
            }
            says(name + ": NONE likewise: without the CURVE");
            for (int curve : new int[] {2, 8, -1, MIN, MAX}) {
                checks.due(name, least ? bench.least(curve, 0, 1, 0) : bench.greatest(curve, 0, 1, 0), -1);
            }
            says(name + ": NONE likewise: if a is above b");
            checks.due(name, least ? bench.least(0, 1, 0, 0) : bench.greatest(0, 1, 0, 0), -1);
            checks.due(name, least ? bench.least(0, MAX, MIN, 0) : bench.greatest(0, MAX, MIN, 0), -1);
            says(name + ": NONE, and nothing happens");
            checks.dueShut(name, bench, 2, 3);
            checks.due("parts", bench.count(2), 2);
        }
        says("least, greatest: 0 to 200 halvings");
        checks.due("least", bench.least(1, 0, 1, 0), 0);
        checks.due("least", bench.least(1, 0, 1, 200), 0);
        checks.due("greatest", bench.greatest(1, 0, 1, 0), 0);
        checks.due("greatest", bench.greatest(1, 0, 1, 200), 0);
    }

    // ---- 13

    private void greatest() {
        says("least() of the CURVE with a - ahead, its SHUT [c, d] told as [-d, -c]");
        greatest("x", -3, 9, 0, 3, 9, 1);
        greatest("x", -3, 10, 0, 3, 10, 1);
        greatest("x", -10, 3, 0, -4, 3, 1);
        greatest("x", -3, 9, 1, 6, 9, 2);
        greatest("x", -3, 9, 200, 8, 9, 5);
        greatest("3-x^2", -2 * ONE, 4 * ONE, 0, 2 * ONE, 3 * ONE, 1);
        greatest("-size(x)", -4, 4, 0, 0, 0, 1);
        greatest("-size(x)", -4, 4, 2, -1, 0, 3);
        greatest("x", 4, 4, 200, 4, 4, 1);
        greatest("x", MAX, MAX, 0, MAX, MAX, 1);
        greatest("exp(x)", ONE, 4 * ONE, 20, 57250192, 57250317, 21);
        says("greatest: of several the first one along the span");
        greatest("-x^2", -7, -1, 3, -1, 0, 3);
        greatest("-size(x)", -17, 6, 5, -1, 0, 6);
        says("greatest: with a - ahead: a HOLE where that is one");
        ShutBench bench = with("x");
        checks.due("greatest", bench.greatest(0, MIN, 0, 5), 1);
        checks.due("greatest", bench.greatest(0, MIN, MIN, 0), 1);
        checks.due("least", bench.least(0, MIN, MIN, 0), 0);
        checks.due("greatest", bench.greatest(0, MIN + 1, 0, 0), 0);
        checks.dueShut("greatest", bench, -1073741824, 0);
        checks.due("greatest", bench.greatest(0, MIN + 1, MIN + 1, 0), 0);
        checks.dueShut("greatest", bench, MIN + 1, MIN + 1);
    }

    private void greatestRefused() {
        says("greatest: 1 likewise, and nothing is told");
        ShutBench bench = with("x", "1/x");
        checks.due("greatest", bench.greatest(0, 2, 8, 1), 0);
        checks.dueShut("greatest", bench, 6, 8);
        checks.due("greatest", bench.greatest(1, -1, 1, 1), 1);
        checks.due("greatest", bench.greatest(1, 0, 0, 1), 1);
        checks.dueShut("greatest", bench, 6, 8);
        checks.due("parts", bench.count(2), 2);
    }

    // ---- 14

    private void neverBroken() {
        says("with a SHUT whose LOW is above it is done with");
        never("x", span(4, 9), 3, 1, 1, 1);
        never("x", span(4, 9), MIN, 1, 1, 1);
        never("x", span(MIN + 1, MAX), MIN, 1, 1, 1);
        never("x-x", span(MIN, MAX), MIN, 400, 1, 5);
        says("a SHUT whose LOW is the bound is not");
        broken("x", span(4, 9), 4, 1, 4, 1);
        never("size(x)+0*x", span(-4, 3), -1, 1, 1, 1);
        says("at its begin, its end, its middle (down), each alone, in this order");
        broken("x", span(4, 9), 9, 1, 4, 1);
        broken("x", span(4, 9), MAX, 1, 4, 1);
        broken("-x", span(4, 9), -9, 1, 9, 1);
        broken("-x", span(4, 9), -7, 1, 9, 1);
        broken("-x", span(4, 9), -4, 1, 4, 1);
        broken("size(x)", span(-4, 4), 3, 1, 0, 1);
        broken("size(x)", span(-4, 4), 4, 1, -4, 1);
        broken("size(x)", span(-4, 3), 3, 1, 3, 1);
        broken("size(x+1/1024/1024)", span(-4, 3), 0, 1, -1, 1);
        broken("size(x+2/1024/1024)", span(-4, 1), 0, 1, -2, 1);
        broken("x", span(MIN, MAX), MIN, 1, MIN, 1);
        broken("-x", span(MIN + 1, MAX), -MAX, 1, MAX, 1);
        says("where the HIGH is not above");
        broken("x", span(5, 5), 5, 1, 5, 1);
        never("x", span(5, 5), 4, 1, 1, 1);
        broken("x+0.0001", span(5, 5), 110, 1, 5, 1);
        never("x+0.0001", span(5, 5), 109, 400, 2, 1);
        never("x+0.0001", span(5, 5), 108, 400, 1, 1);
        says("a HOLE tells nothing");
        never("1/x", span(0, 0), MAX, 400, 2, 1);
        never("1/x", span(-1, 1), MAX, 400, 2, 3);
        broken("0/x", span(-1, 1), 0, 400, -1, 1);
        broken("0/x", span(0, 1), 0, 400, 1, 1);
        broken("0/(size(x)-1/1024/1024)", span(-1, 1), 0, 400, 0, 1);
        never("0/x", span(-4, 4), -1, 400, 2, 11);
        never("root(x)", span(-4, 0), -1, 400, 2, 7);
    }

    private void neverInTurn() {
        says("if it is 2 wide or more, it becomes two, which wait ahead of the others");
        // [0, 4], [0, 2], [0, 1] stays untold, [1, 2] is done with, [2, 4] is broken at its middle.
        String text = "size(x-3/1024/1024)+0/x";
        broken(text, span(0, 4), 0, 5, 3, 5);
        never(text, span(0, 4), 0, 4, 2, 4);
        never(text, span(0, 4), -1, 400, 2, 5);
        // [-4, 3], [-4, -1] is done with, [-1, 3], [-1, 1] is broken at its middle.
        broken("size(x)", span(-4, 3), 0, 400, 0, 4);
        says("(if not, it stays untold, and the next one is looked at)");
        never("x-x", span(0, 1), -1, 400, 2, 1);
        never("x-x", span(0, 2), -1, 400, 2, 3);
        never("x-x+0.5", span(0, 9), ONE / 2 - 1, 400, 2, 17);
    }

    private void neverUntold() {
        says("1: all are done with");
        never("x-x+0.5", span(0, 4 * ONE), 0, 400, 1, 31);
        never("x-x+0.5", span(0, 4 * ONE), 0, 31, 1, 31);
        says("2: so many parts (1 to 400) have been looked at");
        never("x-x+0.5", span(0, 4 * ONE), 0, 30, 2, 30);
        never("x-x+0.5", span(0, 4 * ONE), 0, 1, 2, 1);
        never("x-x+0.5", span(0, 256 * ONE), 0, 400, 2, 400);
        never("x-x+0.5", span(0, 256 * ONE), 0, 399, 2, 399);
        never("x-x", span(0, MAX), -1, 400, 2, 400);
        says("2: some stay untold");
        never("0/x", span(0, 1), -1, 400, 2, 1);
        never("0/x", span(0, 1), -1, 1, 2, 1);
        never("0/x", span(0, 2), -1, 3, 2, 3);
        never("0/x", span(-2, 0), -1, 400, 2, 3);
    }

    private void neverRefused() {
        ShutBench bench = with("x", "2");
        neverOf(bench, span(4, 9), 5, 7, 0, 1);
        says("never: so many parts (1 to 400): NONE for others");
        for (int most : new int[] {0, -1, 401, MIN, MAX}) {
            checks.due("never, " + most, bench.never(0, 4, 9, 3, most), -1);
        }
        says("never: NONE likewise: without the CURVE");
        for (int curve : new int[] {2, 8, -1, MIN, MAX}) {
            checks.due("never(" + curve, bench.never(curve, 4, 9, 3, 5), -1);
        }
        says("never: NONE likewise: if a is above b");
        checks.due("never", bench.never(0, 9, 4, 3, 5), -1);
        checks.due("never", bench.never(0, MAX, MIN, 3, 5), -1);
        says("never: NONE, and nothing happens");
        checks.dueShut("never", bench, 4, 4);
        checks.due("count(3)", bench.count(3), 1);
        says("never: 1 to 400, a may be b");
        checks.due("never", bench.never(0, 4, 4, 3, 1), 1);
        checks.due("never", bench.never(0, 4, 4, 3, 400), 1);
        checks.due("never", bench.never(0, 4, 9, MIN, 400), 1);
        checks.due("never", bench.never(0, 4, 9, MAX, 400), 0);
    }

    // ---- 15 to 17

    private void lowAndHigh() {
        says("low(), high(): 0 ahead of any");
        ShutBench bench = with("x", "1/x", "x-x");
        checks.dueShut("new", bench, 0, 0);
        bench.roots(0, -5, 5, 1);
        bench.at(1, 0, 0);
        bench.never(0, 5, 9, 1, 1);
        checks.dueShut("none that was 0", bench, 0, 0);
        says("of the latest of at(), slope(), area(), least(), greatest(), never() that was 0");
        bench.at(0, 3, 7);
        checks.dueShut("at", bench, 3, 7);
        bench.slope(0, 3, 7);
        checks.dueShut("slope", bench, ONE, ONE);
        bench.area(0, 0, 4 * ONE, 0, 0);
        checks.dueShut("area", bench, 8 * ONE, 8 * ONE);
        bench.least(0, 2, 6, 0);
        checks.dueShut("least", bench, 2, 4);
        bench.greatest(0, 2, 6, 0);
        checks.dueShut("greatest", bench, 4, 6);
        bench.never(0, 2, 6, 3, 1);
        checks.dueShut("never", bench, 2, 2);
        says("of the latest that was 0: no other tells");
        bench.at(1, 0, 0);
        bench.slope(1, 0, 0);
        bench.area(1, 0, 1, 0, 0);
        bench.least(1, 0, 1, 0);
        bench.greatest(1, 0, 1, 0);
        bench.never(0, 5, 9, 1, 1);
        bench.never(2, 0, 9, -5, 400);
        bench.at(0, 1, 0);
        bench.area(0, 1, 1, 0, 0);
        bench.roots(0, -5, 5, 1);
        bench.feed(0, 0, 0, 0, 0);
        bench.curve();
        bench.drop();
        checks.dueShut("never", bench, 2, 2);
    }

    private void count() {
        says("count: 0 ahead of any");
        ShutBench bench = with("x", "x^2-2", "1/x", "x-x");
        for (int what = 1; what < 5; what++) {
            checks.due("count(" + what + ")", bench.count(what), 0);
        }
        says("what 0: CURVES, 1: bytes of the TAPE");
        checks.due("count(0)", bench.count(0), 4);
        bench.feed(0, 0, 0, 0, 0);
        checks.due("count(1)", bench.count(1), 20);
        says("2: parts of the latest area(), least(), greatest() that was 0");
        bench.area(1, 0, ONE, 2, 0);
        checks.due("area", bench.count(2), 3);
        bench.least(1, 0, ONE, 3);
        checks.due("least", bench.count(2), 4);
        bench.greatest(1, 0, ONE, 4);
        checks.due("greatest", bench.count(2), 5);
        bench.area(2, -1, 1, 9, 0);
        bench.least(2, -1, 1, 9);
        bench.greatest(2, -1, 1, 9);
        bench.area(0, 0, 0, 9, 0);
        bench.least(0, 0, 1, 201);
        bench.never(0, 2, 3, 1, 1);
        bench.roots(0, 1, 2, 1);
        checks.due("none that was 0", bench.count(2), 5);
        says("3: parts that the latest never() looked at that was not NONE");
        checks.due("all done with", bench.count(3), 1);
        bench.never(3, 0, 2, -1, 400);
        checks.due("some untold", bench.count(3), 3);
        bench.never(0, 1, 2, 0, 0);
        checks.due("NONE", bench.count(3), 3);
        bench.never(0, 1, 2, 1, 5);
        checks.due("broken", bench.count(3), 1);
        says("4: parts of the latest roots()");
        checks.due("one", bench.count(4), 1);
        bench.roots(1, -2 * ONE, 2 * ONE, 1);
        checks.due("three", bench.count(4), 3);
        says("count: NONE for another what");
        for (int what : new int[] {5, -1, MIN, MAX}) {
            checks.due("count(" + what + ")", bench.count(what), -1);
        }
        bench.drop();
        checks.due("count(0)", bench.count(0), 3);
        checks.due("count(2)", bench.count(2), 5);
        checks.due("count(3)", bench.count(3), 1);
        checks.due("count(4)", bench.count(4), 3);
    }
}
