import java.math.BigInteger;
import java.util.ArrayList;
import java.util.List;

/**
 * The document read a second time, by other means than ShutBench: trees, faults that are thrown, numbers
 * without an end, every part of a span kept in its place along the span. Slow, and without LANGUAGE.md.
 */
final class Oracle {
    private static final BigInteger MIN = BigInteger.valueOf(Integer.MIN_VALUE);
    private static final BigInteger MAX = BigInteger.valueOf(Integer.MAX_VALUE);
    private static final BigInteger ONE = BigInteger.ONE;
    private static final BigInteger RAW = ONE.shiftLeft(20);
    private static final BigInteger FINE = ONE.shiftLeft(24);
    /** What a call may look at before it is given up as too long for a test. */
    private static final int PATIENCE = 40000;

    /** A run that takes longer than a test may. */
    static final class TooLong extends RuntimeException {
    }

    private static final class Fault extends RuntimeException {
        final int kind;
        final int place;

        Fault(int kind, int place) {
            this.kind = kind;
            this.place = place;
        }
    }

    private static final class Node {
        String act;
        BigInteger[] number;
        int n;
        Node first;
        Node second;

        Node(String act, Node first, Node second) {
            this.act = act;
            this.first = first;
            this.second = second;
        }
    }

    private static final class Told {
        Node tree;
        int acts;
    }

    private static final class Both {
        BigInteger[] value;
        BigInteger[] slope;
    }

    private String tape = "";
    private final List<Told> curves = new ArrayList<>();
    private BigInteger low = BigInteger.ZERO;
    private BigInteger high = BigInteger.ZERO;
    private int partCount;
    private int lookCount;
    private List<int[]> roots = new ArrayList<>();
    private int place;
    private int acts;

    // ---- texts

    private int skip() {
        while (place < tape.length() && tape.charAt(place) == ' ') {
            place++;
        }
        return place < tape.length() ? tape.charAt(place) : 0xFFFF;
    }

    private void met(int where) {
        acts++;
        if (acts == 61) {
            throw new Fault(3, where);
        }
    }

    private Node sum(int open) {
        Node tree = term(open);
        while (skip() == '+' || skip() == '-') {
            String act = String.valueOf(tape.charAt(place));
            met(place++);
            tree = new Node(act, tree, term(open));
        }
        return tree;
    }

    private Node term(int open) {
        Node tree = power(open);
        while (skip() == '*' || skip() == '/') {
            String act = String.valueOf(tape.charAt(place));
            met(place++);
            tree = new Node(act, tree, power(open));
        }
        return tree;
    }

    private Node power(int open) {
        if (skip() == '-') {
            met(place++);
            return new Node("ahead", raised(open), null);
        }
        return raised(open);
    }

    private Node raised(int open) {
        Node tree = part(open);
        if (skip() == '^') {
            met(place++);
            int digit = skip();
            if (digit < '1' || digit > '9') {
                throw new Fault(1, place);
            }
            place++;
            tree = new Node("^", tree, null);
            tree.n = digit - '0';
        }
        return tree;
    }

    private void must(char sign) {
        if (skip() != sign) {
            throw new Fault(1, place);
        }
        place++;
    }

    private void open(int open) {
        if (skip() != '(') {
            throw new Fault(1, place);
        }
        if (open == 12) {
            throw new Fault(3, place);
        }
        place++;
    }

    private Node part(int open) {
        if (skip() == '(') {
            open(open);
            Node tree = sum(open + 1);
            must(')');
            return tree;
        }
        int begin = place;
        while (place < tape.length() && String.valueOf(tape.charAt(place)).matches("[A-Za-z0-9.]")) {
            place++;
        }
        String word = tape.substring(begin, place);
        boolean known = word.matches("x|c[0-7]|[0-9]{1,4}([.][0-9]{1,4})?|root|exp|log|sin|cos|size|lesser|greater");
        if (!known) {
            throw new Fault(1, begin);
        }
        met(begin);
        if (word.equals("x")) {
            return new Node("x", null, null);
        }
        if (Character.isDigit(word.charAt(0))) {
            return number(word);
        }
        if (word.charAt(0) == 'c' && word.length() == 2) {
            Node tree = new Node("c", null, null);
            tree.n = word.charAt(1) - '0';
            if (tree.n >= curves.size()) {
                throw new Fault(2, begin);
            }
            return tree;
        }
        open(open);
        Node tree = new Node(word, sum(open + 1), null);
        if (word.equals("lesser") || word.equals("greater")) {
            must(',');
            tree.second = sum(open + 1);
        }
        must(')');
        return tree;
    }

    private static Node number(String word) {
        int point = word.indexOf('.');
        BigInteger by = BigInteger.TEN.pow(point < 0 ? 0 : word.length() - point - 1);
        BigInteger raw = new BigInteger(word.replace(".", "")).multiply(RAW);
        Node tree = new Node("number", null, null);
        tree.number = shut(down(raw, by), up(raw, by));
        return tree;
    }

    // ---- shuts

    private static BigInteger big(long n) {
        return BigInteger.valueOf(n);
    }

    private static BigInteger down(BigInteger n, BigInteger m) {
        BigInteger[] parts = n.divideAndRemainder(m);
        return parts[1].signum() != 0 && n.signum() * m.signum() < 0 ? parts[0].subtract(ONE) : parts[0];
    }

    private static BigInteger up(BigInteger n, BigInteger m) {
        return down(n.negate(), m).negate();
    }

    private static BigInteger[] shut(BigInteger low, BigInteger high) {
        if (low.compareTo(high) > 0) {
            throw new IllegalStateException("LOW above HIGH");
        }
        return low.compareTo(MIN) < 0 || high.compareTo(MAX) > 0 ? null : new BigInteger[] {low, high};
    }

    private static BigInteger[] plus(BigInteger[] f, BigInteger[] g) {
        return f == null || g == null ? null : shut(f[0].add(g[0]), f[1].add(g[1]));
    }

    private static BigInteger[] ahead(BigInteger[] f) {
        return f == null ? null : shut(f[1].negate(), f[0].negate());
    }

    private static BigInteger[] minus(BigInteger[] f, BigInteger[] g) {
        return f == null || g == null ? null : shut(f[0].subtract(g[1]), f[1].subtract(g[0]));
    }

    private static BigInteger[] times(BigInteger[] f, BigInteger[] g) {
        if (f == null || g == null) {
            return null;
        }
        BigInteger least = null;
        BigInteger most = null;
        for (BigInteger a : f) {
            for (BigInteger c : g) {
                BigInteger product = a.multiply(c);
                least = least == null ? product : least.min(product);
                most = most == null ? product : most.max(product);
            }
        }
        return shut(down(least, RAW), up(most, RAW));
    }

    private static BigInteger[] over(BigInteger[] f, BigInteger[] g) {
        if (f == null || g == null || g[0].signum() <= 0 && g[1].signum() >= 0) {
            return null;
        }
        BigInteger least = null;
        BigInteger most = null;
        for (BigInteger a : f) {
            for (BigInteger c : g) {
                BigInteger lower = down(a.multiply(RAW), c);
                BigInteger upper = up(a.multiply(RAW), c);
                least = least == null ? lower : least.min(lower);
                most = most == null ? upper : most.max(upper);
            }
        }
        return shut(least, most);
    }

    /** M, or null if it comes above 2^31. */
    private static BigInteger grown(BigInteger size, int n, boolean up) {
        BigInteger m = size;
        BigInteger most = ONE.shiftLeft(31);
        for (int i = 1; i < n; i++) {
            m = up ? up(m.multiply(size), RAW) : down(m.multiply(size), RAW);
            if (m.compareTo(most) > 0) {
                return null;
            }
        }
        return m.compareTo(most) > 0 ? null : m;
    }

    private static BigInteger[] power(BigInteger[] f, int n) {
        if (f == null) {
            return null;
        }
        BigInteger low;
        BigInteger high;
        if (n % 2 == 1) {
            boolean below = f[0].signum() < 0;
            low = grown(f[0].abs(), n, below);
            low = low != null && below ? low.negate() : low;
            below = f[1].signum() < 0;
            high = grown(f[1].abs(), n, !below);
            high = high != null && below ? high.negate() : high;
        } else {
            boolean zero = f[0].signum() <= 0 && f[1].signum() >= 0;
            low = grown(zero ? BigInteger.ZERO : f[0].abs().min(f[1].abs()), n, false);
            high = grown(f[0].abs().max(f[1].abs()), n, true);
        }
        return low == null || high == null ? null : shut(low, high);
    }

    private static BigInteger[] size(BigInteger[] f) {
        if (f == null || f[0].signum() >= 0) {
            return f;
        }
        return f[1].signum() <= 0 ? ahead(f) : shut(BigInteger.ZERO, f[0].negate().max(f[1]));
    }

    private static BigInteger[] together(BigInteger[] f, BigInteger[] g) {
        return f == null || g == null ? null : shut(f[0].min(g[0]), f[1].max(g[1]));
    }

    private static BigInteger[] root(BigInteger[] f) {
        if (f == null || f[0].signum() < 0) {
            return null;
        }
        BigInteger square = f[1].multiply(RAW);
        BigInteger high = square.sqrt();
        high = high.multiply(high).equals(square) ? high : high.add(ONE);
        return shut(f[0].multiply(RAW).sqrt(), high);
    }

    private static BigInteger raised(long p, boolean up) {
        if (p < -14680064) {
            return big(up ? 1 : 0);
        }
        long i = Math.floorDiv(p, 1L << 20);
        BigInteger f = big(Math.floorMod(p, 1L << 20)).multiply(big(16));
        List<BigInteger> terms = new ArrayList<>();
        terms.add(f);
        for (int k = 2; k <= 14; k++) {
            BigInteger ahead = terms.get(terms.size() - 1).multiply(f);
            terms.add(up ? up(up(ahead, FINE), big(k)) : down(down(ahead, FINE), big(k)));
        }
        BigInteger sum = FINE;
        for (BigInteger term : terms) {
            sum = sum.add(term);
        }
        sum = up ? sum.add(ONE) : sum;
        BigInteger by = big(i >= 0 ? up ? 45605202 : 45605201 : up ? 6171993 : 6171992);
        for (long k = 0; k < Math.abs(i); k++) {
            sum = up ? up(sum.multiply(by), FINE) : down(sum.multiply(by), FINE);
        }
        return up ? up(sum, big(16)) : down(sum, big(16));
    }

    private static BigInteger[] exp(BigInteger[] f) {
        if (f == null || f[1].longValue() > 7994000) {
            return null;
        }
        return shut(raised(f[0].longValue(), false), raised(f[1].longValue(), true));
    }

    private static BigInteger[] log(BigInteger[] f) {
        if (f == null || f[0].signum() <= 0) {
            return null;
        }
        long[] found = new long[2];
        for (int side = 0; side < 2; side++) {
            long least = -14680064;
            long greatest = 7994000;
            while (least < greatest) {
                long p = Math.floorDiv(least + greatest + 1, 2L);
                boolean so = side == 0 ? raised(p, true).compareTo(f[0]) <= 0 : raised(p, false).compareTo(f[1]) < 0;
                if (so) {
                    least = p;
                } else {
                    greatest = p - 1;
                }
            }
            found[side] = least;
        }
        return shut(big(found[0]), big(found[1] == 7994000 ? 7995393 : found[1] + 1));
    }

    private static BigInteger[] wave(BigInteger[] f, boolean sine) {
        if (f == null) {
            return null;
        }
        BigInteger m = down(f[0].add(f[1]), big(2));
        BigInteger r = f[1].subtract(m);
        BigInteger end = big(6815744);
        if (m.abs().compareTo(end) > 0 || r.compareTo(RAW) > 0) {
            return shut(RAW.negate(), RAW);
        }
        BigInteger u = m.abs().multiply(big(16));
        BigInteger[] v = {down(u.multiply(u), FINE), up(u.multiply(u), FINE)};
        BigInteger[][] terms = new BigInteger[20][];
        terms[0] = sine ? new BigInteger[] {u, u} : new BigInteger[] {FINE, FINE};
        for (int k = 1; k < 20; k++) {
            BigInteger by = big(sine ? 2L * k * (2 * k + 1) : (2L * k - 1) * 2 * k);
            terms[k] = new BigInteger[] {
                down(down(terms[k - 1][0].multiply(v[0]), FINE), by),
                up(up(terms[k - 1][1].multiply(v[1]), FINE), by)};
        }
        BigInteger low = big(-1);
        BigInteger high = big(1);
        for (int k = 0; k < 20; k++) {
            low = k % 2 == 0 ? low.add(terms[k][0]) : low.subtract(terms[k][1]);
            high = k % 2 == 0 ? high.add(terms[k][1]) : high.subtract(terms[k][0]);
        }
        if (sine && m.signum() < 0) {
            BigInteger other = low.negate();
            low = high.negate();
            high = other;
        }
        low = down(low, big(16)).subtract(r);
        high = up(high, big(16)).add(r);
        return shut(low.max(RAW.negate()), high.min(RAW));
    }

    // ---- values and slopes of trees

    private static BigInteger[] whole(int n) {
        return shut(RAW.multiply(big(n)), RAW.multiply(big(n)));
    }

    private Both both(Node tree, BigInteger[] span) {
        Both told = new Both();
        if (tree.act.equals("x") || tree.act.equals("number")) {
            told.value = tree.act.equals("x") ? span : tree.number;
            told.slope = told.value == null ? null : whole(tree.act.equals("x") ? 1 : 0);
            return told;
        }
        if (tree.act.equals("c")) {
            return both(curves.get(tree.n).tree, span);
        }
        Both first = both(tree.first, span);
        Both second = tree.second == null ? first : both(tree.second, span);
        BigInteger[] f = first.value;
        BigInteger[] g = second.value;
        told.value = value(tree, f, g);
        told.slope = told.value == null ? null : slope(tree, first, second, told.value);
        return told;
    }

    private static BigInteger[] value(Node tree, BigInteger[] f, BigInteger[] g) {
        switch (tree.act) {
            case "+": return plus(f, g);
            case "-": return minus(f, g);
            case "*": return times(f, g);
            case "/": return over(f, g);
            case "ahead": return ahead(f);
            case "^": return power(f, tree.n);
            case "root": return root(f);
            case "exp": return exp(f);
            case "log": return log(f);
            case "sin": return wave(f, true);
            case "cos": return wave(f, false);
            case "size": return size(f);
            case "lesser": return f == null || g == null ? null : shut(f[0].min(g[0]), f[1].min(g[1]));
            case "greater": return f == null || g == null ? null : shut(f[0].max(g[0]), f[1].max(g[1]));
            default: throw new IllegalStateException(tree.act);
        }
    }

    private static BigInteger[] slope(Node tree, Both first, Both second, BigInteger[] value) {
        BigInteger[] f = first.value;
        BigInteger[] g = second.value;
        BigInteger[] fs = first.slope;
        BigInteger[] gs = second.slope;
        switch (tree.act) {
            case "+": return plus(fs, gs);
            case "-": return minus(fs, gs);
            case "*": return plus(times(fs, g), times(f, gs));
            case "/": return over(minus(times(fs, g), times(f, gs)), power(g, 2));
            case "ahead": return ahead(fs);
            case "^": return tree.n == 1 ? fs : times(times(whole(tree.n), power(f, tree.n - 1)), fs);
            case "root": return over(fs, times(whole(2), value));
            case "exp": return times(value, fs);
            case "log": return over(fs, f);
            case "sin": return times(wave(f, false), fs);
            case "cos": return ahead(times(wave(f, true), fs));
            case "size":
                if (f[0].signum() >= 0) {
                    return fs;
                }
                return f[1].signum() <= 0 ? ahead(fs) : together(fs, ahead(fs));
            case "lesser":
                if (f[1].compareTo(g[0]) <= 0) {
                    return fs;
                }
                return g[1].compareTo(f[0]) <= 0 ? gs : together(fs, gs);
            default:
                if (f[0].compareTo(g[1]) >= 0) {
                    return fs;
                }
                return g[0].compareTo(f[1]) >= 0 ? gs : together(fs, gs);
        }
    }

    private BigInteger[] over(int curve, long a, long b) {
        return both(curves.get(curve).tree, shut(big(a), big(b))).value;
    }

    private BigInteger[] slopeOver(int curve, long a, long b) {
        return both(curves.get(curve).tree, shut(big(a), big(b))).slope;
    }

    private boolean has(int curve) {
        return curve >= 0 && curve < curves.size();
    }

    // ---- the face

    int feed(int a, int b, int c, int d, int e) {
        if (tape.length() + 20 > 200) {
            return -1;
        }
        for (int number : new int[] {a, b, c, d, e}) {
            for (int k = 3; k >= 0; k--) {
                tape += (char) (number >> 8 * k & 255);
            }
        }
        return tape.length();
    }

    int end(int n) {
        if (n < 0 || n > tape.length()) {
            return -1;
        }
        tape = tape.substring(0, n);
        return n;
    }

    int curve() {
        if (curves.size() == 8) {
            tape = "";
            return -1;
        }
        try {
            place = 0;
            acts = 0;
            Told told = new Told();
            told.tree = sum(0);
            if (skip() != 0xFFFF) {
                throw new Fault(1, place);
            }
            told.acts = acts;
            curves.add(told);
            return curves.size() - 1;
        } catch (Fault fault) {
            return -2 - (fault.kind + 4 * fault.place);
        } finally {
            tape = "";
        }
    }

    int drop() {
        if (curves.isEmpty()) {
            return -1;
        }
        curves.remove(curves.size() - 1);
        return curves.size();
    }

    int about(int curve, int what) {
        if (!has(curve)) {
            return -1;
        }
        switch (what) {
            case 0: return curves.get(curve).acts;
            case 1: return smooth(curves.get(curve).tree) ? 1 : 0;
            case 2: return degree(curves.get(curve).tree).min(big(1000)).intValue();
            default: return -1;
        }
    }

    private boolean smooth(Node tree) {
        if (tree == null) {
            return true;
        }
        if (tree.act.equals("c")) {
            return smooth(curves.get(tree.n).tree);
        }
        return !tree.act.matches("size|lesser|greater") && smooth(tree.first) && smooth(tree.second);
    }

    private BigInteger degree(Node tree) {
        BigInteger f = tree.first == null ? big(0) : degree(tree.first);
        BigInteger g = tree.second == null ? big(0) : degree(tree.second);
        if (f.signum() < 0 || g.signum() < 0) {
            return big(-1);
        }
        switch (tree.act) {
            case "x": return ONE;
            case "number": return big(0);
            case "c": return degree(curves.get(tree.n).tree);
            case "+": case "-": case "ahead": return f.max(g);
            case "*": return f.add(g);
            case "^": return f.multiply(big(tree.n));
            default: return big(-1);
        }
    }

    int at(int curve, int a, int b) {
        return !has(curve) || a > b ? -1 : tell(over(curve, a, b));
    }

    int slope(int curve, int a, int b) {
        return !has(curve) || a > b ? -1 : tell(slopeOver(curve, a, b));
    }

    private int tell(BigInteger[] shut) {
        if (shut == null) {
            return 1;
        }
        low = shut[0];
        high = shut[1];
        return 0;
    }

    /** LOW and HIGH of a part's SUM. */
    private BigInteger[] sumOf(int curve, long[] part) {
        BigInteger[] all = over(curve, part[0], part[1]);
        if (all == null) {
            return null;
        }
        BigInteger w = big(part[1] - part[0]);
        BigInteger[] slope = slopeOver(curve, part[0], part[1]);
        long m = part[0] + part[1];
        BigInteger[] there = over(curve, Math.floorDiv(m, 2L), -Math.floorDiv(-m, 2L));
        if (slope != null && there != null) {
            BigInteger e = up(slope[1].subtract(slope[0]).multiply(w), RAW);
            if (e.compareTo(MAX) <= 0) {
                BigInteger d = up(e.multiply(w), ONE.shiftLeft(23));
                return new BigInteger[] {
                    down(there[0].multiply(w), RAW).subtract(d), up(there[1].multiply(w), RAW).add(d)};
            }
        }
        return new BigInteger[] {down(all[0].multiply(w), RAW), up(all[1].multiply(w), RAW)};
    }

    int area(int curve, int a, int b, int halvings, long near) {
        long wide = (long) b - a;
        if (!has(curve) || wide < 1 || wide > 1073741824 || halvings < 0 || halvings > 200 || near < 0) {
            return -1;
        }
        List<long[]> parts = new ArrayList<>();
        List<BigInteger[]> sums = new ArrayList<>();
        parts.add(new long[] {a, b});
        sums.add(sumOf(curve, parts.get(0)));
        BigInteger least = null;
        BigInteger most = null;
        for (int halved = 0; ; halved++) {
            BigInteger lows = big(0);
            BigInteger highs = big(0);
            int widest = 0;
            for (int k = 0; k < sums.size(); k++) {
                if (sums.get(k) == null) {
                    return 1;
                }
                lows = lows.add(sums.get(k)[0]);
                highs = highs.add(sums.get(k)[1]);
                if (widthOf(sums.get(k)).compareTo(widthOf(sums.get(widest))) > 0) {
                    widest = k;
                }
            }
            least = least == null ? lows : least.max(lows);
            most = most == null ? highs : most.min(highs);
            long[] part = parts.get(widest);
            if (halved == halvings || most.subtract(least).compareTo(big(near)) <= 0 || part[1] - part[0] == 1) {
                low = least;
                high = most;
                partCount = parts.size();
                return 0;
            }
            long middle = Math.floorDiv(part[0] + part[1], 2L);
            parts.set(widest, new long[] {part[0], middle});
            parts.add(widest + 1, new long[] {middle, part[1]});
            sums.set(widest, sumOf(curve, parts.get(widest)));
            sums.add(widest + 1, sumOf(curve, parts.get(widest + 1)));
        }
    }

    private static BigInteger widthOf(BigInteger[] sum) {
        return sum[1].subtract(sum[0]);
    }

    private static boolean noZero(BigInteger[] shut) {
        return shut != null && (shut[0].signum() > 0 || shut[1].signum() < 0);
    }

    int roots(int curve, int a, int b, int narrow) {
        if (!has(curve) || a >= b || narrow < 1) {
            return -1;
        }
        List<int[]> told = new ArrayList<>();
        List<int[]> wait = new ArrayList<>();
        wait.add(new int[] {a, b});
        int looks = 0;
        while (!wait.isEmpty()) {
            if (++looks > PATIENCE) {
                throw new TooLong();
            }
            int[] part = wait.remove(0);
            long wide = (long) part[1] - part[0];
            BigInteger[] atBegin = over(curve, part[0], part[0]);
            BigInteger[] atEnd = over(curve, part[1], part[1]);
            int what;
            if (noZero(over(curve, part[0], part[1]))) {
                what = 0;
            } else if (noZero(slopeOver(curve, part[0], part[1])) && noZero(atBegin) && noZero(atEnd)
                    && atBegin[0].signum() != atEnd[0].signum()) {
                what = 1;
            } else if (wide <= narrow || told.size() + wait.size() >= 59) {
                what = 2;
            } else {
                int middle = (int) Math.floorDiv((long) part[0] + part[1], 2L);
                wait.add(0, new int[] {middle, part[1]});
                wait.add(0, new int[] {part[0], middle});
                continue;
            }
            int[] latest = told.isEmpty() ? null : told.get(told.size() - 1);
            if (what == 0 && latest != null && latest[2] == 0) {
                latest[1] = part[1];
            } else {
                told.add(new int[] {part[0], part[1], what});
            }
        }
        roots = told;
        return told.size();
    }

    int part(int k, int what) {
        return k < 0 || k >= roots.size() || what < 0 || what > 2 ? 0 : roots.get(k)[what];
    }

    int least(int curve, int a, int b, int halvings) {
        return extreme(curve, a, b, halvings, false);
    }

    int greatest(int curve, int a, int b, int halvings) {
        return extreme(curve, a, b, halvings, true);
    }

    private BigInteger[] turned(int curve, long a, long b, boolean turn) {
        return turn ? ahead(over(curve, a, b)) : over(curve, a, b);
    }

    private int extreme(int curve, int a, int b, int halvings, boolean turn) {
        if (!has(curve) || a > b || halvings < 0 || halvings > 200) {
            return -1;
        }
        List<long[]> parts = new ArrayList<>();
        parts.add(new long[] {a, b});
        for (int halved = 0; ; halved++) {
            BigInteger least = null;
            BigInteger most = null;
            int lowest = 0;
            for (int k = 0; k < parts.size(); k++) {
                long[] part = parts.get(k);
                long middle = Math.floorDiv(part[0] + part[1], 2L);
                BigInteger[] all = turned(curve, part[0], part[1], turn);
                BigInteger[] there = turned(curve, middle, middle, turn);
                if (all == null || there == null) {
                    return 1;
                }
                if (least == null || all[0].compareTo(least) < 0) {
                    least = all[0];
                    lowest = k;
                }
                most = most == null ? there[1] : most.min(there[1]);
            }
            long[] part = parts.get(lowest);
            if (halved == halvings || part[1] - part[0] < 2) {
                low = turn ? most.negate() : least;
                high = turn ? least.negate() : most;
                partCount = parts.size();
                return 0;
            }
            long middle = Math.floorDiv(part[0] + part[1], 2L);
            parts.add(lowest + 1, new long[] {middle, part[1]});
            parts.set(lowest, new long[] {part[0], middle});
        }
    }

    int never(int curve, int a, int b, int bound, int most) {
        if (!has(curve) || a > b || most < 1 || most > 400) {
            return -1;
        }
        List<int[]> wait = new ArrayList<>();
        wait.add(new int[] {a, b});
        boolean untold = false;
        lookCount = 0;
        while (!wait.isEmpty()) {
            if (lookCount == most) {
                return 2;
            }
            lookCount++;
            int[] part = wait.remove(0);
            BigInteger[] all = over(curve, part[0], part[1]);
            if (all != null && all[0].compareTo(big(bound)) > 0) {
                continue;
            }
            int middle = (int) Math.floorDiv((long) part[0] + part[1], 2L);
            for (int tried : new int[] {part[0], part[1], middle}) {
                BigInteger[] there = over(curve, tried, tried);
                if (there != null && there[1].compareTo(big(bound)) <= 0) {
                    low = big(tried);
                    high = low;
                    return 0;
                }
            }
            if ((long) part[1] - part[0] >= 2) {
                wait.add(0, new int[] {middle, part[1]});
                wait.add(0, new int[] {part[0], middle});
            } else {
                untold = true;
            }
        }
        return untold ? 2 : 1;
    }

    long low() {
        return low.longValueExact();
    }

    long high() {
        return high.longValueExact();
    }

    int count(int what) {
        switch (what) {
            case 0: return curves.size();
            case 1: return tape.length();
            case 2: return partCount;
            case 3: return lookCount;
            case 4: return roots.size();
            default: return -1;
        }
    }
}
