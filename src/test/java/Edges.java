/** What the tests share that ask a new bench for a text at a time. */
abstract class Edges {
    static final int MIN = Integer.MIN_VALUE;
    static final int MAX = Integer.MAX_VALUE;
    static final int ONE = 1048576;

    final Checks checks;

    Edges(Checks checks) {
        this.checks = checks;
    }

    /** Asks all; the answers that are not due are counted by the checks. */
    abstract void ask();

    /** Asks all that the document says of its edges, sentence by sentence. */
    static void askAll(Checks checks) {
        new EdgesOfTextsTest(checks).ask();
        new EdgesOfShutsTest(checks).ask();
        new EdgesOfPartsTest(checks).ask();
    }

    void says(String sentence) {
        checks.says(sentence);
    }

    ShutBench with(String... texts) {
        ShutBench bench = new ShutBench();
        for (int i = 0; i < texts.length; i++) {
            checks.due("curve() of " + texts[i], Checks.tell(bench, texts[i]), i);
        }
        return bench;
    }

    /** The texts are CURVES, each alone on its bench. */
    void told(String... texts) {
        for (String text : texts) {
            with(text);
        }
    }

    /** The text is a CURVE of so many ACTS, c0 is told ahead of it. */
    void toldOf(int acts, String text) {
        checks.due("ACTS of " + text, with("x", text).about(1, 0), acts);
    }

    /** A FAULT where no CURVE is told ahead. */
    void fault(String text, int kind, int place) {
        faultOf(new ShutBench(), text, kind, place);
    }

    void faultOf(ShutBench bench, String text, int kind, int place) {
        int curves = bench.count(0);
        checks.due("curve() of " + text, Checks.tell(bench, text), -2 - (kind + 4 * place));
        checks.due("CURVES behind " + text, bench.count(0), curves);
        checks.due("bytes of the TAPE behind " + text, bench.count(1), 0);
    }

    void value(String text, int a, int b, long low, long high) {
        valueOf(with(text), 0, a, b, low, high);
    }

    void valueOf(ShutBench bench, int curve, int a, int b, long low, long high) {
        String call = "at(" + curve + ", " + a + ", " + b + ")";
        checks.due(call, bench.at(curve, a, b), 0);
        checks.dueShut(call, bench, low, high);
    }

    void hole(String text, int a, int b) {
        checks.due("at() of " + text + " over " + a + ", " + b, with(text).at(0, a, b), 1);
    }

    void slope(String text, int a, int b, long low, long high) {
        slopeOf(with(text), 0, a, b, low, high);
    }

    void slopeOf(ShutBench bench, int curve, int a, int b, long low, long high) {
        String call = "slope(" + curve + ", " + a + ", " + b + ")";
        checks.due(call, bench.slope(curve, a, b), 0);
        checks.dueShut(call, bench, low, high);
    }

    void slopeHole(String text, int a, int b) {
        checks.due("slope() of " + text + " over " + a + ", " + b, with(text).slope(0, a, b), 1);
    }

    static String times(String text, int n) {
        return text.repeat(n);
    }
}
