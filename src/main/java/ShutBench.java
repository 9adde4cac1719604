/** A bench that never says a number, but between which two whole millionths (of 2^20) it lies. */
public final class ShutBench {
    public static final int NONE = -1;

    private static final int HOLED = 1;
    private static final int MOST_CURVES = 8;
    private static final int MOST_ACTS = 60;
    private static final int MOST_BYTES = 200;
    private static final int FEED_BYTES = 20;
    private static final int MOST_HALVINGS = 200;
    private static final int MOST_LOOKS = 400;
    private static final long WIDEST_AREA = 1073741824L;
    private static final long WHOLE = 1048576L;
    private static final long LEAST_RAW = -2147483648L;
    private static final long GREATEST_RAW = 2147483647L;
    private static final int MOST_DEGREE = 1000;

    // Kinds of ACTS: those without a part of their own, those of one part, those of two.
    private static final int X = 0;
    private static final int NUMBER = 1;
    private static final int CURVE = 2;
    private static final int MINUS_AHEAD = 3;
    private static final int POWER = 4;
    private static final int ROOT = 5;
    private static final int EXP = 6;
    private static final int LOG = 7;
    private static final int SIN = 8;
    private static final int COS = 9;
    private static final int SIZE = 10;
    private static final int LESSER = 11;
    private static final int GREATER = 12;
    private static final int PLUS = 13;
    private static final int MINUS = 14;
    private static final int TIMES = 15;
    private static final int OVER = 16;

    private final Reader reader = new Reader();
    private final Gauge gauge = new Gauge();
    private final Halver halver = new Halver();
    private final Walker walker = new Walker();
    private long low;
    private long high;
    private int partCount;
    private int lookCount;

    public ShutBench() {
    }

    public int feed(int a, int b, int c, int d, int e) {
        Tape tape = reader.tape;
        if (tape.size + FEED_BYTES > MOST_BYTES) {
            return NONE;
        }
        tape.take(a);
        tape.take(b);
        tape.take(c);
        tape.take(d);
        tape.take(e);
        return tape.size;
    }

    public int end(int n) {
        if (n < 0 || n > reader.tape.size) {
            return NONE;
        }
        reader.tape.size = n;
        return n;
    }

    public int curve() {
        int answer = NONE;
        if (gauge.curveCount < MOST_CURVES) {
            int fault = reader.read(gauge.curveCount);
            answer = fault != 0 ? -2 - fault : gauge.keep(reader.draft);
        }
        reader.tape.size = 0;
        return answer;
    }

    public int drop() {
        if (gauge.curveCount < 1) {
            return NONE;
        }
        gauge.curveCount--;
        return gauge.curveCount;
    }

    public int about(int curve, int what) {
        if (!gauge.has(curve)) {
            return NONE;
        }
        switch (what) {
            case 0:
                return gauge.curveAt(curve).acts;
            case 1:
                return gauge.curveAt(curve).smooth ? 1 : 0;
            case 2:
                return gauge.curveAt(curve).degree;
            default:
                return NONE;
        }
    }

    public int at(int curve, int a, int b) {
        if (!gauge.has(curve) || a > b) {
            return NONE;
        }
        return tell(gauge.measure(curve, a, b, false));
    }

    public int slope(int curve, int a, int b) {
        if (!gauge.has(curve) || a > b) {
            return NONE;
        }
        gauge.measure(curve, a, b, true);
        return tell(gauge.steepness);
    }

    public int area(int curve, int a, int b, int halvings, long near) {
        long wide = (long) b - a;
        if (!gauge.has(curve) || wide < 1 || wide > WIDEST_AREA || !isHalvings(halvings) || near < 0) {
            return NONE;
        }
        return tellHalved(halver.sumUp(gauge, curve, a, b, halvings, near), false);
    }

    public int roots(int curve, int a, int b, int narrow) {
        if (!gauge.has(curve) || a >= b || narrow < 1) {
            return NONE;
        }
        walker.seekRoots(gauge, curve, a, b, narrow);
        return walker.told;
    }

    public int part(int k, int what) {
        return walker.tellPart(k, what);
    }

    public int least(int curve, int a, int b, int halvings) {
        if (!gauge.has(curve) || a > b || !isHalvings(halvings)) {
            return NONE;
        }
        return tellHalved(halver.seekLeast(gauge, curve, a, b, halvings, false), false);
    }

    public int greatest(int curve, int a, int b, int halvings) {
        if (!gauge.has(curve) || a > b || !isHalvings(halvings)) {
            return NONE;
        }
        return tellHalved(halver.seekLeast(gauge, curve, a, b, halvings, true), true);
    }

    public int never(int curve, int a, int b, int bound, int most) {
        if (!gauge.has(curve) || a > b || most < 1 || most > MOST_LOOKS) {
            return NONE;
        }
        int answer = walker.seekBreak(gauge, curve, a, b, bound, most);
        lookCount = walker.looks;
        if (answer == 0) {
            low = walker.place;
            high = walker.place;
        }
        return answer;
    }

    public long low() {
        return low;
    }

    public long high() {
        return high;
    }

    public int count(int what) {
        switch (what) {
            case 0:
                return gauge.curveCount;
            case 1:
                return reader.tape.size;
            case 2:
                return partCount;
            case 3:
                return lookCount;
            case 4:
                return walker.told;
            default:
                return NONE;
        }
    }

    private static boolean isHalvings(int halvings) {
        return halvings >= 0 && halvings <= MOST_HALVINGS;
    }

    private static int middleOf(int begin, int end) {
        return (int) ((long) begin + end >> 1);
    }

    private int tell(long shut) {
        if (shut == Shut.HOLE) {
            return HOLED;
        }
        low = Shut.lowOf(shut);
        high = Shut.highOf(shut);
        return 0;
    }

    private int tellHalved(boolean isTold, boolean turned) {
        if (!isTold) {
            return HOLED;
        }
        low = turned ? -halver.foundHigh : halver.foundLow;
        high = turned ? -halver.foundLow : halver.foundHigh;
        partCount = halver.parts;
        return 0;
    }

    /** The bytes that were fed. */
    private static final class Tape {
        static final int END = -1;

        final int[] bytes = new int[MOST_BYTES];
        int size;

        void take(int number) {
            for (int shift = 24; shift >= 0; shift -= 8) {
                if (size >= 0 && size < bytes.length) {
                    bytes[size] = number >>> shift & 255;
                    size++;
                }
            }
        }

        int byteAt(int place) {
            return place >= 0 && place < size && place < bytes.length ? bytes[place] : END;
        }
    }

    /** The ACTS of a CURVE, each behind its parts: the last part stands right ahead of it, the first of two at its left. */
    private static final class Curve {
        final int[] kinds = new int[MOST_ACTS];
        final long[] details = new long[MOST_ACTS];
        final int[] lefts = new int[MOST_ACTS];
        int acts;
        boolean smooth;
        int degree;
        int needs;

        void add(int kind, long detail, int left) {
            if (acts >= 0 && acts < MOST_ACTS) {
                kinds[acts] = kind;
                details[acts] = detail;
                lefts[acts] = left;
                acts++;
            }
        }

        void copy(Curve other) {
            acts = 0;
            for (int i = 0; i < other.acts && i < MOST_ACTS; i++) {
                add(other.kinds[i], other.details[i], other.lefts[i]);
            }
        }

        int kindAt(int i) {
            return i >= 0 && i < MOST_ACTS ? kinds[i] : NONE;
        }

        long detailAt(int i) {
            return i >= 0 && i < MOST_ACTS ? details[i] : 0;
        }

        int leftAt(int i) {
            return i >= 0 && i < MOST_ACTS ? lefts[i] : NONE;
        }
    }

    /** Reads the TAPE into a draft; the first FAULT ends the reading. */
    private static final class Reader {
        private static final int WRONG = 1;
        private static final int NO_CURVE = 2;
        private static final int TOO_MUCH = 3;
        private static final int MOST_OPEN = 12;
        private static final int NO_KIND = -1;
        private static final int WHOLE_WORD = -2;
        private static final int MOST_DIGITS = 4;

        final Tape tape = new Tape();
        final Curve draft = new Curve();
        private int place;
        private int met;
        private int fault;
        private int known;

        /** 0, or the FAULT's kind and 4 times its place. */
        int read(int curvesTold) {
            draft.acts = 0;
            place = 0;
            met = 0;
            fault = 0;
            known = curvesTold;
            sum(0);
            if (fault == 0 && sign() != Tape.END) {
                refuse(WRONG);
            }
            return fault;
        }

        private void refuse(int kind) {
            if (fault == 0) {
                fault = kind + 4 * place;
            }
        }

        /** The next byte that is no blank; place stands at it then. */
        private int sign() {
            while (place < tape.size && tape.byteAt(place) == ' ') {
                place++;
            }
            return tape.byteAt(place);
        }

        /** Counts an ACT at the place; false if it is one too many. */
        private boolean meet() {
            if (met >= MOST_ACTS) {
                refuse(TOO_MUCH);
                return false;
            }
            met++;
            return true;
        }

        private void emit(int kind, long detail, int left) {
            if (fault == 0) {
                draft.add(kind, detail, left);
            }
        }

        /** A SUM that stands in as many ( ) as are open; piece() lets no more than MOST_OPEN open. */
        private void sum(int open) {
            term(open);
            for (int i = 0; i < MOST_BYTES && fault == 0; i++) {
                int sign = sign();
                if (sign != '+' && sign != '-' || !meet()) {
                    return;
                }
                place++;
                int left = draft.acts - 1;
                term(open);
                emit(sign == '+' ? PLUS : MINUS, 0, left);
            }
        }

        private void term(int open) {
            power(open);
            for (int i = 0; i < MOST_BYTES && fault == 0; i++) {
                int sign = sign();
                if (sign != '*' && sign != '/' || !meet()) {
                    return;
                }
                place++;
                int left = draft.acts - 1;
                power(open);
                emit(sign == '*' ? TIMES : OVER, 0, left);
            }
        }

        private void power(int open) {
            boolean minus = sign() == '-';
            if (minus) {
                if (!meet()) {
                    return;
                }
                place++;
            }
            piece(open);
            if (fault == 0 && sign() == '^' && meet()) {
                place++;
                int digit = sign() - '0';
                if (digit < 1 || digit > 9) {
                    refuse(WRONG);
                }
                place++;
                emit(POWER, digit, 0);
            }
            if (minus) {
                emit(MINUS_AHEAD, 0, 0);
            }
        }

        /** A PART of a text: a WORD that is whole by itself, or what stands in ( ), perhaps behind a name. */
        private void piece(int open) {
            int name = sign() == '(' ? NO_KIND : word();
            if (fault != 0 || name == WHOLE_WORD) {
                return;
            }
            if (sign() == '(' && open >= MOST_OPEN) {
                refuse(TOO_MUCH);
            }
            pass('(');
            int left = 0;
            if (name == LESSER || name == GREATER) {
                inside(open);
                pass(',');
                left = draft.acts - 1;
            }
            inside(open);
            pass(')');
            if (name != NO_KIND) {
                emit(name, 0, left);
            }
        }

        private void inside(int open) {
            if (fault == 0) {
                sum(open + 1);
            }
        }

        private void pass(int due) {
            if (fault == 0 && sign() != due) {
                refuse(WRONG);
            }
            place++;
        }

        /** Goes over a WORD: the name's kind, or WHOLE_WORD for one that nothing need follow, which is emitted. */
        private int word() {
            int end = place;
            while (end < tape.size && isWordByte(tape.byteAt(end))) {
                end++;
            }
            int kind = kindOf(end);
            if (kind == NO_KIND) {
                refuse(WRONG);
                return WHOLE_WORD;
            }
            if (!meet()) {
                return WHOLE_WORD;
            }
            if (kind == X) {
                emit(X, 0, 0);
            } else if (kind == NUMBER) {
                emit(NUMBER, number(end), 0);
            } else if (kind == CURVE) {
                if (curveNumber() >= known) {
                    refuse(NO_CURVE);
                }
                emit(CURVE, curveNumber(), 0);
            }
            place = end;
            return kind <= CURVE ? WHOLE_WORD : kind;
        }

        private int curveNumber() {
            return tape.byteAt(place + 1) - '0';
        }

        private int kindOf(int end) {
            if (isDigit(tape.byteAt(place))) {
                return isNumber(end) ? NUMBER : NO_KIND;
            }
            if (isWord(end, "x")) {
                return X;
            }
            if (end - place == 2 && tape.byteAt(place) == 'c') {
                int digit = curveNumber();
                return digit >= 0 && digit < MOST_CURVES ? CURVE : NO_KIND;
            }
            return nameOf(end);
        }

        private int nameOf(int end) {
            if (isWord(end, "root")) {
                return ROOT;
            }
            if (isWord(end, "exp")) {
                return EXP;
            }
            if (isWord(end, "log")) {
                return LOG;
            }
            if (isWord(end, "sin")) {
                return SIN;
            }
            if (isWord(end, "cos")) {
                return COS;
            }
            if (isWord(end, "size")) {
                return SIZE;
            }
            if (isWord(end, "lesser")) {
                return LESSER;
            }
            return isWord(end, "greater") ? GREATER : NO_KIND;
        }

        private boolean isWord(int end, String word) {
            if (end - place != word.length()) {
                return false;
            }
            for (int i = 0; i < word.length(); i++) {
                if (tape.byteAt(place + i) != word.charAt(i)) {
                    return false;
                }
            }
            return true;
        }

        private boolean isNumber(int end) {
            int point = place;
            while (point < end && isDigit(tape.byteAt(point))) {
                point++;
            }
            if (point - place < 1 || point - place > MOST_DIGITS) {
                return false;
            }
            if (point == end) {
                return true;
            }
            int more = end - point - 1;
            if (tape.byteAt(point) != '.' || more < 1 || more > MOST_DIGITS) {
                return false;
            }
            for (int i = point + 1; i < end; i++) {
                if (!isDigit(tape.byteAt(i))) {
                    return false;
                }
            }
            return true;
        }

        private long number(int end) {
            long digits = 0;
            long scale = 1;
            boolean behindPoint = false;
            for (int i = place; i < end; i++) {
                int sign = tape.byteAt(i);
                if (isDigit(sign)) {
                    digits = digits * 10 + sign - '0';
                    scale = behindPoint ? scale * 10 : scale;
                } else {
                    behindPoint = true;
                }
            }
            if (scale < 1) {
                return Shut.HOLE;
            }
            long raw = digits * WHOLE;
            return Shut.of(raw / scale, (raw + scale - 1) / scale);
        }

        private static boolean isDigit(int sign) {
            return sign >= '0' && sign <= '9';
        }

        private static boolean isWordByte(int sign) {
            return isDigit(sign) || sign == '.' || sign >= 'a' && sign <= 'z' || sign >= 'A' && sign <= 'Z';
        }
    }

    /** SHUTS and the ACTS on them. A SHUT is one long (LOW above, HIGH below), so that none makes an object. */
    private static final class Shut {
        /** A LOW above its HIGH, which no SHUT has. */
        static final long HOLE = 1L << 32;

        private static final int WHOLE_BITS = 20;
        private static final int ROOT_BITS = 26;
        private static final long GREATEST_SIZE = 2147483648L;
        /** Beyond all RAW numbers, so that a SHUT with it, of either sign, is a HOLE. */
        private static final long BEYOND = 1L << 40;

        static long of(long low, long high) {
            if (low < LEAST_RAW || high > GREATEST_RAW || low > high) {
                return HOLE;
            }
            return low << 32 | high & 0xFFFFFFFFL;
        }

        static long lowOf(long shut) {
            return shut >> 32;
        }

        static long highOf(long shut) {
            return (int) shut;
        }

        static boolean isHole(long f, long g) {
            return f == HOLE || g == HOLE;
        }

        static boolean hasNoZero(long f) {
            return f != HOLE && (lowOf(f) > 0 || highOf(f) < 0);
        }

        /** Whether all of the first is not above all of the second. */
        static boolean isApart(long f, long g) {
            return highOf(f) <= lowOf(g);
        }

        static long plus(long f, long g) {
            return isHole(f, g) ? HOLE : of(lowOf(f) + lowOf(g), highOf(f) + highOf(g));
        }

        static long minus(long f, long g) {
            return isHole(f, g) ? HOLE : of(lowOf(f) - highOf(g), highOf(f) - lowOf(g));
        }

        static long turned(long f) {
            return f == HOLE ? HOLE : of(-highOf(f), -lowOf(f));
        }

        static long times(long f, long g) {
            if (isHole(f, g)) {
                return HOLE;
            }
            long first = lowOf(f) * lowOf(g);
            long second = lowOf(f) * highOf(g);
            long third = highOf(f) * lowOf(g);
            long fourth = highOf(f) * highOf(g);
            long least = Math.min(Math.min(first, second), Math.min(third, fourth));
            long greatest = Math.max(Math.max(first, second), Math.max(third, fourth));
            return of(least >> WHOLE_BITS, -(-greatest >> WHOLE_BITS));
        }

        static long over(long f, long g) {
            if (isHole(f, g) || !hasNoZero(g)) {
                return HOLE;
            }
            long a = lowOf(f) << WHOLE_BITS;
            long b = highOf(f) << WHOLE_BITS;
            long c = lowOf(g);
            long d = highOf(g);
            if (c == 0 || d == 0) {
                return HOLE;
            }
            long least = Math.min(
                    Math.min(Math.floorDiv(a, c), Math.floorDiv(a, d)),
                    Math.min(Math.floorDiv(b, c), Math.floorDiv(b, d)));
            long greatest = -Math.min(
                    Math.min(Math.floorDiv(-a, c), Math.floorDiv(-a, d)),
                    Math.min(Math.floorDiv(-b, c), Math.floorDiv(-b, d)));
            return of(least, greatest);
        }

        static long power(long f, long n) {
            if (f == HOLE) {
                return HOLE;
            }
            long a = lowOf(f);
            long b = highOf(f);
            if ((n & 1) == 1) {
                long low = a < 0 ? -grownUp(-a, n) : grownDown(a, n);
                long high = b < 0 ? -grownDown(-b, n) : grownUp(b, n);
                return of(low, high);
            }
            long least = a <= 0 && b >= 0 ? 0 : Math.min(Math.abs(a), Math.abs(b));
            return of(grownDown(least, n), grownUp(Math.max(Math.abs(a), Math.abs(b)), n));
        }

        private static long grownDown(long size, long n) {
            long grown = size;
            for (long i = 1; i < n && grown <= GREATEST_SIZE; i++) {
                grown = grown * size >> WHOLE_BITS;
            }
            return grown > GREATEST_SIZE ? BEYOND : grown;
        }

        private static long grownUp(long size, long n) {
            long grown = size;
            for (long i = 1; i < n && grown <= GREATEST_SIZE; i++) {
                grown = grown * size + WHOLE - 1 >> WHOLE_BITS;
            }
            return grown > GREATEST_SIZE ? BEYOND : grown;
        }

        static long size(long f) {
            if (f == HOLE || lowOf(f) >= 0) {
                return f;
            }
            return highOf(f) <= 0 ? turned(f) : of(0, Math.max(-lowOf(f), highOf(f)));
        }

        static long lesser(long f, long g) {
            return isHole(f, g) ? HOLE : of(Math.min(lowOf(f), lowOf(g)), Math.min(highOf(f), highOf(g)));
        }

        static long greater(long f, long g) {
            return isHole(f, g) ? HOLE : of(Math.max(lowOf(f), lowOf(g)), Math.max(highOf(f), highOf(g)));
        }

        static long together(long f, long g) {
            return isHole(f, g) ? HOLE : of(Math.min(lowOf(f), lowOf(g)), Math.max(highOf(f), highOf(g)));
        }

        static long root(long f) {
            if (f == HOLE || lowOf(f) < 0) {
                return HOLE;
            }
            long square = highOf(f) << WHOLE_BITS;
            long high = rootDown(square);
            return of(rootDown(lowOf(f) << WHOLE_BITS), high * high < square ? high + 1 : high);
        }

        private static long rootDown(long square) {
            long root = 0;
            for (int bit = ROOT_BITS; bit >= 0; bit--) {
                long tried = root | 1L << bit;
                if (tried * tried <= square) {
                    root = tried;
                }
            }
            return root;
        }
    }

    /** exp, log, sin and cos by sums of TERMS, counted in numbers of 2^24 ths. */
    private static final class Series {
        private static final int FINE_BITS = 24;
        private static final long FINE = 1L << FINE_BITS;
        private static final int FINER_BITS = 4;
        private static final long FINER = 16;
        private static final int EXP_TERMS = 14;
        private static final int WAVE_TERMS = 20;
        private static final long LEAST_EXP = -14680064L;
        private static final long GREATEST_EXP = 7994000L;
        private static final long GREATEST_LOG = 7995393L;
        private static final long GREATEST_WAVE = 6815744L;
        private static final long E_DOWN = 45605201L;
        private static final long ONE_BY_E_DOWN = 6171992L;
        private static final int HALVINGS = 40;

        static long exp(long f) {
            if (f == Shut.HOLE || Shut.highOf(f) > GREATEST_EXP) {
                return Shut.HOLE;
            }
            return Shut.of(raised(Shut.lowOf(f), false), raised(Shut.highOf(f), true));
        }

        /** E(p) of the document; none of its numbers is below 0, so that / is down. */
        private static long raised(long p, boolean up) {
            if (p < LEAST_EXP) {
                return up ? 1 : 0;
            }
            long whole = p >> 20;
            long rest = (p & WHOLE - 1) * FINER;
            long spare = up ? FINE - 1 : 0;
            long term = rest;
            long sum = FINE + term;
            for (int k = 2; k <= EXP_TERMS; k++) {
                term = term * rest + spare >> FINE_BITS;
                term = (up ? term + k - 1 : term) / k;
                sum += term;
            }
            long factor = whole < 0 ? ONE_BY_E_DOWN : E_DOWN;
            if (up) {
                sum++;
                factor++;
            }
            long times = whole < 0 ? -whole : whole;
            for (long i = 0; i < times; i++) {
                sum = sum * factor + spare >> FINE_BITS;
            }
            return (up ? sum + FINER - 1 : sum) >> FINER_BITS;
        }

        static long log(long f) {
            if (f == Shut.HOLE || Shut.lowOf(f) <= 0) {
                return Shut.HOLE;
            }
            long found = halved(Shut.highOf(f) - 1, false);
            return Shut.of(halved(Shut.lowOf(f), true), found == GREATEST_EXP ? GREATEST_LOG : found + 1);
        }

        /** What HALVING finds for: E(p), up or down, is not above most. */
        private static long halved(long most, boolean up) {
            long least = LEAST_EXP;
            long greatest = GREATEST_EXP;
            for (int i = 0; i < HALVINGS && least < greatest; i++) {
                long middle = least + greatest + 1 >> 1;
                if (raised(middle, up) <= most) {
                    least = middle;
                } else {
                    greatest = middle - 1;
                }
            }
            return least;
        }

        /** sin or cos. */
        static long wave(long f, boolean cosine) {
            if (f == Shut.HOLE) {
                return Shut.HOLE;
            }
            long middle = Shut.lowOf(f) + Shut.highOf(f) >> 1;
            long reach = Shut.highOf(f) - middle;
            if (middle > GREATEST_WAVE || middle < -GREATEST_WAVE || reach > WHOLE) {
                return Shut.of(-WHOLE, WHOLE);
            }
            long size = Math.abs(middle) * FINER;
            long squareDown = size * size >> FINE_BITS;
            long squareUp = size * size + FINE - 1 >> FINE_BITS;
            long down = cosine ? FINE : size;
            long up = down;
            long sumDown = down - 1;
            long sumUp = up + 1;
            for (int k = 1; k < WAVE_TERMS; k++) {
                long by = cosine ? (2 * k - 1) * 2 * k : 2 * k * (2 * k + 1);
                down = (down * squareDown >> FINE_BITS) / by;
                up = ((up * squareUp + FINE - 1 >> FINE_BITS) + by - 1) / by;
                boolean even = (k & 1) == 0;
                sumDown += even ? down : -up;
                sumUp += even ? up : -down;
            }
            boolean turned = !cosine && middle < 0;
            long low = (turned ? -sumUp : sumDown) >> FINER_BITS;
            long high = -((turned ? sumDown : -sumUp) >> FINER_BITS);
            return Shut.of(Math.max(low - reach, -WHOLE), Math.min(high + reach, WHOLE));
        }
    }

    /** The CURVES, and the SHUTS of their values and slopes over a span. */
    private static final class Gauge {
        private final Curve[] curves = new Curve[MOST_CURVES];
        private final Curve none = new Curve();
        private final int[] degrees = new int[MOST_ACTS];
        private final long[] values = new long[MOST_ACTS];
        private final long[] leans = new long[MOST_ACTS];
        private final long[] curveValues = new long[MOST_CURVES];
        private final long[] curveLeans = new long[MOST_CURVES];
        private long span;
        int curveCount;
        /** The slope's SHUT of the latest measure() that was asked for it. */
        long steepness = Shut.HOLE;

        Gauge() {
            for (int i = 0; i < MOST_CURVES; i++) {
                curves[i] = new Curve();
            }
        }

        boolean has(int number) {
            return number >= 0 && number < curveCount;
        }

        Curve curveAt(int number) {
            Curve curve = number >= 0 && number < MOST_CURVES ? curves[number] : none;
            return curve == null ? none : curve;
        }

        /** Keeps a copy of what has been read as the next CURVE: its number. */
        int keep(Curve read) {
            Curve curve = curveAt(curveCount);
            curve.copy(read);
            curve.smooth = true;
            curve.needs = 0;
            for (int i = 0; i < curve.acts && i < MOST_ACTS; i++) {
                int kind = curve.kinds[i];
                if (kind == SIZE || kind == LESSER || kind == GREATER) {
                    curve.smooth = false;
                } else if (kind == CURVE) {
                    Curve named = curveAt((int) curve.details[i]);
                    curve.smooth = curve.smooth && named.smooth;
                    curve.needs |= named.needs | 1 << (int) curve.details[i];
                }
                degrees[i] = degreeOf(curve, i);
                curve.degree = degrees[i];
            }
            curveCount++;
            return curveCount - 1;
        }

        private int degreeOf(Curve curve, int i) {
            int first = degreeAt(curve.leftAt(i));
            int last = degreeAt(i - 1);
            switch (curve.kindAt(i)) {
                case X:
                    return 1;
                case NUMBER:
                    return 0;
                case CURVE:
                    return curveAt((int) curve.detailAt(i)).degree;
                case MINUS_AHEAD:
                    return last;
                case POWER:
                    return last == NONE ? NONE : Math.min(MOST_DEGREE, last * (int) curve.detailAt(i));
                case PLUS:
                case MINUS:
                    return first == NONE || last == NONE ? NONE : Math.max(first, last);
                case TIMES:
                    return first == NONE || last == NONE ? NONE : Math.min(MOST_DEGREE, first + last);
                default:
                    return NONE;
            }
        }

        private int degreeAt(int i) {
            return i >= 0 && i < MOST_ACTS ? degrees[i] : NONE;
        }

        private static long rowAt(long[] row, int i) {
            return i >= 0 && i < row.length ? row[i] : Shut.HOLE;
        }

        /**
         * The SHUT of a CURVE over [a, b]; when asked, its slope's is in steepness. The CURVES that it needs
         * are measured ahead of it, each but once however often they are named: else naming ones that name
         * ones could take for ever. A HOLE of any ACT makes one of all.
         */
        long measure(int number, int a, int b, boolean asksSlope) {
            span = Shut.of(a, b);
            steepness = Shut.HOLE;
            int needs = curveAt(number).needs | 1 << number;
            for (int k = 0; k <= number && k < MOST_CURVES; k++) {
                Curve curve = curveAt(k);
                int acts = (needs >> k & 1) == 1 ? curve.acts : 0;
                for (int i = 0; i < acts && i < MOST_ACTS; i++) {
                    values[i] = valueOf(curve, i);
                    if (values[i] == Shut.HOLE) {
                        return Shut.HOLE;
                    }
                    leans[i] = asksSlope ? leanOf(curve, i) : Shut.HOLE;
                }
                curveValues[k] = rowAt(values, acts - 1);
                curveLeans[k] = rowAt(leans, acts - 1);
            }
            steepness = rowAt(curveLeans, number);
            return rowAt(curveValues, number);
        }

        private long valueOf(Curve curve, int i) {
            long f = rowAt(values, curve.leftAt(i));
            long g = rowAt(values, i - 1);
            long detail = curve.detailAt(i);
            switch (curve.kindAt(i)) {
                case X:
                    return span;
                case NUMBER:
                    return detail;
                case CURVE:
                    return rowAt(curveValues, (int) detail);
                case MINUS_AHEAD:
                    return Shut.turned(g);
                case POWER:
                    return Shut.power(g, detail);
                case ROOT:
                    return Shut.root(g);
                case EXP:
                    return Series.exp(g);
                case LOG:
                    return Series.log(g);
                case SIN:
                    return Series.wave(g, false);
                case COS:
                    return Series.wave(g, true);
                case SIZE:
                    return Shut.size(g);
                case LESSER:
                    return Shut.lesser(f, g);
                case GREATER:
                    return Shut.greater(f, g);
                case PLUS:
                    return Shut.plus(f, g);
                case MINUS:
                    return Shut.minus(f, g);
                case TIMES:
                    return Shut.times(f, g);
                case OVER:
                    return Shut.over(f, g);
                default:
                    return Shut.HOLE;
            }
        }

        /** The slope of an ACT whose value, and its parts' values and slopes, stand in the rows. */
        private long leanOf(Curve curve, int i) {
            long f = rowAt(values, curve.leftAt(i));
            long g = rowAt(values, i - 1);
            long leanF = rowAt(leans, curve.leftAt(i));
            long leanG = rowAt(leans, i - 1);
            long value = rowAt(values, i);
            switch (curve.kindAt(i)) {
                case X:
                    return wholes(1);
                case NUMBER:
                    return wholes(0);
                case CURVE:
                    return rowAt(curveLeans, (int) curve.detailAt(i));
                case MINUS_AHEAD:
                    return Shut.turned(leanG);
                case POWER:
                    return leanOfPower(g, curve.detailAt(i), leanG);
                case ROOT:
                    return Shut.over(leanG, Shut.times(wholes(2), value));
                case EXP:
                    return Shut.times(value, leanG);
                case LOG:
                    return Shut.over(leanG, g);
                case SIN:
                    return Shut.times(Series.wave(g, true), leanG);
                case COS:
                    return Shut.turned(Shut.times(Series.wave(g, false), leanG));
                case SIZE:
                    return leanOfSize(g, leanG);
                case LESSER:
                    return Shut.isApart(f, g) ? leanF : Shut.isApart(g, f) ? leanG : Shut.together(leanF, leanG);
                case GREATER:
                    return Shut.isApart(g, f) ? leanF : Shut.isApart(f, g) ? leanG : Shut.together(leanF, leanG);
                case PLUS:
                    return Shut.plus(leanF, leanG);
                case MINUS:
                    return Shut.minus(leanF, leanG);
                case TIMES:
                    return Shut.plus(Shut.times(leanF, g), Shut.times(f, leanG));
                case OVER:
                    return Shut.over(Shut.minus(Shut.times(leanF, g), Shut.times(f, leanG)), Shut.power(g, 2));
                default:
                    return Shut.HOLE;
            }
        }

        private static long wholes(long n) {
            return Shut.of(n * WHOLE, n * WHOLE);
        }

        private static long leanOfPower(long g, long n, long leanG) {
            return n == 1 ? leanG : Shut.times(Shut.times(wholes(n), Shut.power(g, n - 1)), leanG);
        }

        private static long leanOfSize(long g, long leanG) {
            if (Shut.lowOf(g) >= 0) {
                return leanG;
            }
            return Shut.highOf(g) <= 0 ? Shut.turned(leanG) : Shut.together(leanG, Shut.turned(leanG));
        }
    }

    /** Parts of a span that are halved where that tells most: areas, least and greatest values. */
    private static final class Halver {
        private static final int MOST_PARTS = MOST_HALVINGS + 1;
        private static final int WHOLE_BITS = 20;
        private static final int EIGHTH_BITS = 23;

        private final int[] begins = new int[MOST_PARTS];
        private final int[] ends = new int[MOST_PARTS];
        private final long[] lows = new long[MOST_PARTS];
        private final long[] highs = new long[MOST_PARTS];
        int parts;
        long foundLow;
        long foundHigh;

        /** AREA: false if the SHUT over a part alone is a HOLE. */
        boolean sumUp(Gauge gauge, int curve, int a, int b, int halvings, long near) {
            parts = 1;
            boolean isTold = sumPart(gauge, curve, 0, a, b);
            long low = lows[0];
            long high = highs[0];
            foundLow = low;
            foundHigh = high;
            for (int i = 0; i < halvings && isTold && foundHigh - foundLow > near; i++) {
                int k = widest();
                if (!canHalve(k)) {
                    return true;
                }
                low -= lows[k];
                high -= highs[k];
                int end = ends[k];
                int middle = middleOf(begins[k], end);
                isTold = sumPart(gauge, curve, k, begins[k], middle) && sumPart(gauge, curve, parts, middle, end);
                low += lows[k] + lows[parts];
                high += highs[k] + highs[parts];
                parts++;
                foundLow = Math.max(foundLow, low);
                foundHigh = Math.min(foundHigh, high);
            }
            return isTold;
        }

        /** The SUM of a part, kept in row k: false if the SHUT over it is a HOLE. */
        private boolean sumPart(Gauge gauge, int curve, int k, int begin, int end) {
            long shut = gauge.measure(curve, begin, end, true);
            long lean = gauge.steepness;
            if (shut == Shut.HOLE) {
                return false;
            }
            long wide = (long) end - begin;
            long unsure = 0;
            if (lean != Shut.HOLE) {
                long spread = -((Shut.lowOf(lean) - Shut.highOf(lean)) * wide >> WHOLE_BITS);
                int middle = middleOf(begin, end);
                int middleUp = (wide & 1) == 0 ? middle : middle + 1;
                long there = spread > GREATEST_RAW ? Shut.HOLE : gauge.measure(curve, middle, middleUp, false);
                if (there != Shut.HOLE) {
                    shut = there;
                    unsure = -(-spread * wide >> EIGHTH_BITS);
                }
            }
            long low = (Shut.lowOf(shut) * wide >> WHOLE_BITS) - unsure;
            long high = unsure - (-Shut.highOf(shut) * wide >> WHOLE_BITS);
            keep(k, begin, end, low, high);
            return true;
        }

        /** The least value, or with turned that of the CURVE with a - ahead: false if there is a HOLE. */
        boolean seekLeast(Gauge gauge, int curve, int a, int b, int halvings, boolean turned) {
            parts = 1;
            boolean isTold = sinkPart(gauge, curve, 0, a, b, turned);
            for (int i = 0; i < halvings && isTold; i++) {
                int k = deepest();
                if (!canHalve(k)) {
                    break;
                }
                int end = ends[k];
                int middle = middleOf(begins[k], end);
                isTold = sinkPart(gauge, curve, k, begins[k], middle, turned)
                        && sinkPart(gauge, curve, parts, middle, end, turned);
                parts++;
            }
            foundLow = lows[0];
            foundHigh = highs[0];
            for (int i = 1; i < parts && i < MOST_PARTS; i++) {
                foundLow = Math.min(foundLow, lows[i]);
                foundHigh = Math.min(foundHigh, highs[i]);
            }
            return isTold;
        }

        /** A part's LOW and the HIGH at its middle, kept in row k: false if there is a HOLE. */
        private boolean sinkPart(Gauge gauge, int curve, int k, int begin, int end, boolean turned) {
            int middle = middleOf(begin, end);
            long shut = gauge.measure(curve, begin, end, false);
            long there = gauge.measure(curve, middle, middle, false);
            if (turned) {
                shut = Shut.turned(shut);
                there = Shut.turned(there);
            }
            if (Shut.isHole(shut, there)) {
                return false;
            }
            keep(k, begin, end, Shut.lowOf(shut), Shut.highOf(there));
            return true;
        }

        private void keep(int k, int begin, int end, long low, long high) {
            if (k >= 0 && k < MOST_PARTS) {
                begins[k] = begin;
                ends[k] = end;
                lows[k] = low;
                highs[k] = high;
            }
        }

        private boolean canHalve(int k) {
            return k >= 0 && k < MOST_PARTS && parts >= 0 && parts < MOST_PARTS && (long) ends[k] - begins[k] >= 2;
        }

        private int widest() {
            int best = 0;
            for (int i = 1; i < parts && i < MOST_PARTS; i++) {
                long more = highs[i] - lows[i] - (highs[best] - lows[best]);
                if (more > 0 || more == 0 && begins[i] < begins[best]) {
                    best = i;
                }
            }
            return best;
        }

        private int deepest() {
            int best = 0;
            for (int i = 1; i < parts && i < MOST_PARTS; i++) {
                if (lows[i] < lows[best] || lows[i] == lows[best] && begins[i] < begins[best]) {
                    best = i;
                }
            }
            return best;
        }
    }

    /**
     * Goes along a span, the first part that waits first. Those that wait lie one behind the other, so that
     * the end of each is all that need be kept.
     */
    private static final class Walker {
        private static final int NO_ROOT = 0;
        private static final int ONE_ROOT = 1;
        private static final int OPEN = 2;
        private static final int MOST_TOLD = 60;
        private static final int FULL = 59;
        private static final int MOST_WAITING = 64;
        private static final int TRIED = 3;
        /** More than the parts that the widest span can become, those that become two among them. */
        private static final long ALL_LOOKS = 1L << 34;

        private final int[] waitingEnds = new int[MOST_WAITING];
        private final int[] begins = new int[MOST_TOLD];
        private final int[] ends = new int[MOST_TOLD];
        private final int[] whats = new int[MOST_TOLD];
        private int waiting;
        int told;
        int looks;
        int place;

        void seekRoots(Gauge gauge, int curve, int a, int b, int narrow) {
            int begin = a;
            told = 0;
            waiting = 0;
            await(b);
            for (long i = 0; i < ALL_LOOKS && waiting > 0; i++) {
                int end = firstEnd();
                int what = lookAt(gauge, curve, begin, end);
                boolean isEnough = (long) end - begin <= narrow || told + waiting - 1 >= FULL;
                if (what == OPEN && !isEnough && waiting < MOST_WAITING) {
                    await(middleOf(begin, end));
                } else {
                    keep(begin, end, what);
                    begin = end;
                    waiting--;
                }
            }
        }

        private static int lookAt(Gauge gauge, int curve, int begin, int end) {
            long shut = gauge.measure(curve, begin, end, true);
            if (Shut.hasNoZero(shut)) {
                return NO_ROOT;
            }
            if (!Shut.hasNoZero(gauge.steepness)) {
                return OPEN;
            }
            long first = gauge.measure(curve, begin, begin, false);
            long last = gauge.measure(curve, end, end, false);
            boolean isApart = Shut.hasNoZero(first) && Shut.hasNoZero(last)
                    && Shut.lowOf(first) > 0 != Shut.lowOf(last) > 0;
            return isApart ? ONE_ROOT : OPEN;
        }

        private void keep(int begin, int end, int what) {
            int latest = told - 1;
            if (what == NO_ROOT && latest >= 0 && latest < MOST_TOLD && whats[latest] == NO_ROOT) {
                ends[latest] = end;
            } else if (told >= 0 && told < MOST_TOLD) {
                begins[told] = begin;
                ends[told] = end;
                whats[told] = what;
                told++;
            }
        }

        int tellPart(int k, int what) {
            if (k < 0 || k >= told || k >= MOST_TOLD) {
                return 0;
            }
            switch (what) {
                case 0:
                    return begins[k];
                case 1:
                    return ends[k];
                case 2:
                    return whats[k];
                default:
                    return 0;
            }
        }

        /** What never() answers; place is where the bound is broken, looks how many parts were looked at. */
        int seekBreak(Gauge gauge, int curve, int a, int b, int bound, int most) {
            int begin = a;
            boolean isUntold = false;
            waiting = 0;
            await(b);
            for (looks = 0; looks < most && waiting > 0; looks++) {
                int end = firstEnd();
                boolean isDone = isAbove(gauge.measure(curve, begin, end, false), bound);
                if (!isDone && breaks(gauge, curve, begin, end, bound)) {
                    looks++;
                    return 0;
                }
                if (!isDone && (long) end - begin >= 2 && waiting < MOST_WAITING) {
                    await(middleOf(begin, end));
                } else {
                    isUntold = isUntold || !isDone;
                    begin = end;
                    waiting--;
                }
            }
            return isUntold || waiting > 0 ? 2 : 1;
        }

        private static boolean isAbove(long shut, int bound) {
            return shut != Shut.HOLE && Shut.lowOf(shut) > bound;
        }

        /** Whether the bound is broken at a part's begin, its end or its middle: place is the first of them. */
        private boolean breaks(Gauge gauge, int curve, int begin, int end, int bound) {
            for (int i = 0; i < TRIED; i++) {
                place = i == 0 ? begin : i == 1 ? end : middleOf(begin, end);
                long shut = gauge.measure(curve, place, place, false);
                if (shut != Shut.HOLE && Shut.highOf(shut) <= bound) {
                    return true;
                }
            }
            return false;
        }

        private void await(int end) {
            if (waiting >= 0 && waiting < MOST_WAITING) {
                waitingEnds[waiting] = end;
                waiting++;
            }
        }

        private int firstEnd() {
            return waiting > 0 && waiting <= MOST_WAITING ? waitingEnds[waiting - 1] : 0;
        }
    }
}
