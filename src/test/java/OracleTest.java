/** Long runs of made-up calls, ShutBench and the Oracle side by side; always the same calls. */
public final class OracleTest {
    private static final String[] NAMES = {"root", "exp", "log", "sin", "cos", "size"};
    private static final String[] NUMBERS = {
        "0", "1", "2", "3", "0.5", "7", "0.0001", "2047.9999", "2048", "9999", "1.25", "12.3456", "0.1", "100", "6.5"};
    private static final String[] AHEAD = {
        "x^9*x", "(x+1)^9", "size(x)", "-x", "sin(x)", "lesser(c0,2)", "c0^9*c0", "c0", "x+"};
    private static final String[] CROWD = {
        "x", "x", "x", "x", "7", "2.5", "c0", "c1", "c7", "c8", "(x)", "(-c0)", "greater(x,2)", "12345", "x1", "("};
    private static final int[] EDGES = {
        0, 1, -1, 1048576, -1048576, 7994000, 7994001, -14680064, -14680065, 6815744, -6815744, 6815745, -6815745,
        Integer.MAX_VALUE, Integer.MIN_VALUE, 1073741823, 2097152, 524288, 46341};

    private static long state;

    private static int next(int below) {
        state = state * 6364136223846793005L + 1442695040888963407L;
        return (int) ((state >>> 33) % below);
    }

    public static void main(String[] args) {
        int runs = args.length > 0 ? Integer.parseInt(args[0]) : 400;
        int first = args.length > 1 ? Integer.parseInt(args[1]) : 1;
        Checks checks = new Checks();
        for (int run = first; run < first + runs; run++) {
            state = run * 7919L;
            run(checks, run);
            for (int n = 0; n < 20; n++) {
                crowd(checks, run);
            }
        }
        checks.close("OracleTest");
    }

    private static void run(Checks checks, int run) {
        ShutBench bench = new ShutBench();
        Oracle oracle = new Oracle();
        int calls = 0;
        int told = 1 + next(3);
        while (calls < 240) {
            if (told > 0 || next(9) == 0) {
                told--;
                String text = text();
                tell(checks, bench, oracle, "run " + run, text);
                checks.due("run " + run + " curve " + text, bench.curve(), oracle.curve());
                calls += 2 + (text.length() + 19) / 20;
            } else {
                call(checks, bench, oracle, "run " + run + " call " + calls + " ");
                calls++;
            }
            String where = "run " + run + " call " + calls + " then ";
            checks.due(where + "low()", bench.low(), oracle.low());
            checks.due(where + "high()", bench.high(), oracle.high());
            for (int what = -1; what < 6; what++) {
                checks.due(where + "count(" + what + ")", bench.count(what), oracle.count(what));
            }
        }
    }

    /** Texts with so many ACTS and ( that some have one too many, which those of run() hardly ever have. */
    private static void crowd(Checks checks, int run) {
        ShutBench bench = new ShutBench();
        Oracle oracle = new Oracle();
        for (int n = 0; n < 3; n++) {
            String text = n < 2 ? AHEAD[next(AHEAD.length)] : crowded();
            tell(checks, bench, oracle, "run " + run + " crowd", text);
            String where = "run " + run + " crowd curve " + text;
            int told = oracle.curve();
            checks.due(where, bench.curve(), told);
            for (int what = 0; what < 3; what++) {
                checks.due(where + " about " + what, bench.about(told, what), oracle.about(told, what));
            }
        }
    }

    private static String crowded() {
        StringBuilder text = new StringBuilder();
        int open = next(3) == 0 ? 9 + next(5) : next(4);
        for (int i = 0; i < open; i++) {
            text.append(next(3) == 0 ? NAMES[next(NAMES.length)] : "").append('(');
        }
        for (int n = next(40); n > 0; n--) {
            text.append(next(7) == 0 ? "-" : "").append(CROWD[next(CROWD.length)]);
            text.append(next(4) == 0 ? "^" + next(10) : "").append(blank()).append("+-*/".charAt(next(4)));
        }
        text.append('x');
        for (int i = next(6) == 0 ? 1 : 0; i < open; i++) {
            text.append(')');
        }
        if (next(3) == 0) {
            text.insert(next(text.length()), CROWD[next(CROWD.length)]);
        }
        return text.length() > 200 ? text.substring(0, 200) : text.toString();
    }

    private static void tell(Checks checks, ShutBench bench, Oracle oracle, String where, String text) {
        for (int i = 0; i < text.length(); i += 20) {
            int[] n = new int[5];
            for (int k = 0; k < 20; k++) {
                n[k / 4] = n[k / 4] << 8 | (i + k < text.length() ? text.charAt(i + k) : next(256));
            }
            checks.due(where + " feed " + text, bench.feed(n[0], n[1], n[2], n[3], n[4]),
                    oracle.feed(n[0], n[1], n[2], n[3], n[4]));
        }
        checks.due(where + " end", bench.end(text.length()), oracle.end(text.length()));
    }

    private static void call(Checks checks, ShutBench bench, Oracle oracle, String where) {
        int curve = next(12) == 0 ? next(11) - 1 : next(Math.max(1, oracle.count(0)));
        int a = end();
        int b = next(10) == 0 ? end() : (int) Math.min(Integer.MAX_VALUE, a + (long) wide());
        String span = "(" + curve + ", " + a + ", " + b;
        int halvings = next(15) == 0 ? next(210) - 4 : next(12);
        switch (next(12)) {
            case 0:
                int what = next(6) - 1;
                checks.due(where + "about(" + curve + ", " + what, bench.about(curve, what), oracle.about(curve, what));
                break;
            case 1:
            case 2:
                checks.due(where + "at" + span, bench.at(curve, a, b), oracle.at(curve, a, b));
                break;
            case 3:
            case 4:
                checks.due(where + "slope" + span, bench.slope(curve, a, b), oracle.slope(curve, a, b));
                break;
            case 5:
                long near = next(12) - 1 + (next(3) == 0 ? (long) next(100000) : 0);
                checks.due(where + "area" + span + ", " + halvings + ", " + near,
                        bench.area(curve, a, b, halvings, near), oracle.area(curve, a, b, halvings, near));
                break;
            case 6:
            case 7:
                roots(checks, bench, oracle, where, new int[] {curve, a, b});
                break;
            case 8:
                checks.due(where + "least" + span + ", " + halvings,
                        bench.least(curve, a, b, halvings), oracle.least(curve, a, b, halvings));
                break;
            case 9:
                checks.due(where + "greatest" + span + ", " + halvings,
                        bench.greatest(curve, a, b, halvings), oracle.greatest(curve, a, b, halvings));
                break;
            case 10:
                int bound = bench.at(curve, a, b) + oracle.at(curve, a, b) == 0 && next(3) > 0
                        ? (int) (oracle.low() + next(5) * (oracle.high() - oracle.low()) / 5 - next(2)) : end();
                int most = next(10) == 0 ? next(500) - 2 : 1 + next(40);
                checks.due(where + "never" + span + ", " + bound + ", " + most,
                        bench.never(curve, a, b, bound, most), oracle.never(curve, a, b, bound, most));
                break;
            default:
                if (next(4) == 0) {
                    checks.due(where + "drop", bench.drop(), oracle.drop());
                } else {
                    int n = next(30) - 3;
                    checks.due(where + "feed", bench.feed(n, a, b, n, n), oracle.feed(n, a, b, n, n));
                    checks.due(where + "end " + n, bench.end(n), oracle.end(n));
                    checks.due(where + "end 0", bench.end(0), oracle.end(0));
                }
                break;
        }
    }

    private static void roots(Checks checks, ShutBench bench, Oracle oracle, String where, int[] at) {
        int wide = (int) Math.min(Integer.MAX_VALUE, Math.max(1, ((long) at[2] - at[1]) / (1 + next(3000))));
        int narrow = next(10) == 0 ? next(40) - 2 : wide;
        try {
            int due = oracle.roots(at[0], at[1], at[2], narrow);
            checks.due(where + "roots(" + at[0] + ", " + at[1] + ", " + at[2] + ", " + narrow,
                    bench.roots(at[0], at[1], at[2], narrow), due);
        } catch (Oracle.TooLong e) {
            return;
        }
        for (int k = -1; k <= oracle.count(4); k++) {
            for (int what = -1; what < 4; what++) {
                checks.due(where + "part(" + k + ", " + what, bench.part(k, what), oracle.part(k, what));
            }
        }
    }

    private static int end() {
        switch (next(4)) {
            case 0:
                return EDGES[next(EDGES.length)];
            case 1:
                return next(20000000) - 10000000;
            case 2:
                return next(2000) - 1000;
            default:
                return (next(40) - 20) * 262144;
        }
    }

    private static int wide() {
        int most = 1 << next(31);
        return next(6) == 0 ? next(3) : next(most + (most == 1 ? 1 : 0));
    }

    private static String text() {
        String text = sum(next(4));
        if (text.length() > 200) {
            text = text.substring(0, 200);
        }
        if (next(5) == 0) {
            StringBuilder bent = new StringBuilder(text);
            String signs = "x^()+-*/,. c0127aZ\u00e9\u0000";
            for (int n = 1 + next(2); n > 0 && bent.length() > 0; n--) {
                int k = next(bent.length());
                if (next(2) == 0) {
                    bent.deleteCharAt(k);
                } else {
                    bent.insert(k, signs.charAt(next(signs.length())));
                }
            }
            text = bent.length() > 200 ? bent.substring(0, 200) : bent.toString();
        }
        return text;
    }

    private static String blank() {
        return next(8) == 0 ? " " : "";
    }

    private static String sum(int deep) {
        StringBuilder sum = new StringBuilder(term(deep));
        for (int n = next(3); n > 0; n--) {
            sum.append(blank()).append(next(2) == 0 ? '+' : '-').append(blank()).append(term(deep));
        }
        return sum.toString();
    }

    private static String term(int deep) {
        StringBuilder term = new StringBuilder(power(deep));
        for (int n = next(5) / 3; n > 0; n--) {
            term.append(blank()).append(next(3) > 0 ? '*' : '/').append(blank()).append(power(deep));
        }
        return term.toString();
    }

    private static String power(int deep) {
        return blank() + (next(5) == 0 ? "-" : "") + piece(deep)
                + (next(5) == 0 ? blank() + "^" + blank() + (next(3) > 0 ? 1 + next(3) : next(10)) : "") + blank();
    }

    private static String piece(int deep) {
        int kind = next(10);
        if (deep <= 0 || kind < 3) {
            int leaf = next(8);
            return leaf < 4 ? "x" : leaf < 7 ? NUMBERS[next(NUMBERS.length)] : "c" + next(next(4) > 0 ? 2 : 9);
        }
        if (kind == 3) {
            return "(" + sum(deep - 1) + ")";
        }
        if (kind < 6) {
            return (next(2) == 0 ? "lesser" : "greater") + blank() + "(" + sum(deep - 1) + "," + sum(deep - 1) + ")";
        }
        return NAMES[next(NAMES.length)] + blank() + "(" + sum(deep - 1) + ")";
    }
}
