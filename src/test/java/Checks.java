import java.util.LinkedHashSet;
import java.util.Set;

/** What the tests share: telling texts to a bench, and counting answers that are not due. */
final class Checks {
    /** The sentences with an answer that was not due. */
    private final Set<String> broken = new LinkedHashSet<>();
    private final Set<String> sentences = new LinkedHashSet<>();
    /** How many answers that are not due are printed. */
    private final int printed;
    private int wrong;
    private int asked;
    private String sentence = "";

    Checks() {
        this(40);
    }

    Checks(int printed) {
        this.printed = printed;
    }

    /** Names the sentence of the document that the answers from here on are asked for. */
    void says(String words) {
        sentence = words;
        sentences.add(words);
    }

    /** All sentences that answers were asked for. */
    Set<String> sentences() {
        return sentences;
    }

    Set<String> broken() {
        return broken;
    }

    void due(String call, long got, long want) {
        asked++;
        if (got != want) {
            wrong++;
            broken.add(sentence);
            if (wrong <= printed) {
                System.out.println((sentence.isEmpty() ? "" : "\"" + sentence + "\": ") + call + " answered " + got + ", due is " + want);
            }
        }
    }

    /** low() and high() together. */
    void dueShut(String call, ShutBench bench, long low, long high) {
        due(call + " low()", bench.low(), low);
        due(call + " high()", bench.high(), high);
    }

    /** Prints how it went, and ends with exit code 1 if an answer was not due. */
    void close(String test) {
        System.out.println(test + ": " + asked + " answers, " + wrong + " of them not due");
        if (wrong != 0 || asked == 0) {
            System.exit(1);
        }
    }

    /** Puts a text alone on the TAPE, which is empty, 20 bytes at once. */
    static void put(ShutBench bench, String text) {
        for (int i = 0; i < text.length(); i += 20) {
            bench.feed(four(text, i), four(text, i + 4), four(text, i + 8), four(text, i + 12), four(text, i + 16));
        }
        bench.end(text.length());
    }

    static int tell(ShutBench bench, String text) {
        put(bench, text);
        return bench.curve();
    }

    private static int four(String text, int from) {
        int number = 0;
        for (int i = from; i < from + 4; i++) {
            number = number << 8 | (i < text.length() ? text.charAt(i) : 0);
        }
        return number;
    }
}
