/**
 * A specialiser that finds as it goes what is known and what is not. The words in capitals in the
 * comments are the document's. All rows are made once, in the constructors, and used again: a run of
 * calls then makes nothing more, however long it is.
 */
public final class OnlineParts {
    public static final int NONE = -1;

    private static final int TAPE_ROOM = 800;
    private static final int FED_AT_ONCE = 20;
    private static final int NOT_SAVED = -1000;
    /** Far above what the limits on calls and code leave any work to take. */
    private static final int MOST_STEPS = 1000000;

    private final int[] tape;
    private int tapeSize;
    private int faultAt;
    private final Reader reader;
    private Program functions;
    private Program spareFunctions;
    private Pattern asked;
    private Pattern spareAsked;
    private Pattern told;
    private Pattern spareTold;
    private boolean areTold;
    private final Worker worker;
    private final Residue left;
    private final SourceRun sourceRun;
    private final ResidueRun residueRun;
    private final Outcome latest;
    private final Outcome ofSource;
    private final Outcome ofResidue;
    private final Pattern shown;
    private final Text text;

    public OnlineParts() {
        tape = new int[TAPE_ROOM];
        tapeSize = 0;
        faultAt = NONE;
        functions = new Program();
        spareFunctions = new Program();
        reader = new Reader(tape, spareFunctions);
        asked = new Pattern(Reader.PARTS);
        spareAsked = new Pattern(Reader.PARTS);
        told = new Pattern(Reader.PARTS);
        spareTold = new Pattern(Reader.PARTS);
        areTold = false;
        Store store = new Store();
        left = new Residue();
        latest = new Outcome();
        worker = new Worker(store, left, functions);
        sourceRun = new SourceRun(store, functions, latest);
        residueRun = new ResidueRun(store, left, latest);
        ofSource = new Outcome();
        ofResidue = new Outcome();
        shown = new Pattern(Pattern.HEAVIEST);
        text = new Text();
    }

    public int feed(int a, int b, int c, int d, int e) {
        if (tapeSize + FED_AT_ONCE > TAPE_ROOM) {
            return NONE;
        }
        feedFour(a);
        feedFour(b);
        feedFour(c);
        feedFour(d);
        feedFour(e);
        return tapeSize;
    }

    private void feedFour(int four) {
        for (int shift = 24; shift >= 0 && tapeSize < TAPE_ROOM; shift -= 8) {
            tape[tapeSize] = (four >>> shift) & 255;
            tapeSize++;
        }
    }

    public int end(int n) {
        if (n < 0 || n > tapeSize) {
            return NONE;
        }
        tapeSize = n;
        return n;
    }

    public int program() {
        takeTape();
        reader.readProgram(spareFunctions);
        faultAt = reader.badPlace();
        if (faultAt != NONE) {
            return NONE;
        }
        Program before = functions;
        functions = spareFunctions;
        spareFunctions = before;
        left.clear();
        return functions.size;
    }

    public int task() {
        takeTape();
        reader.readTask(spareAsked);
        faultAt = reader.badPlace();
        if (faultAt != NONE) {
            return NONE;
        }
        Pattern before = asked;
        asked = spareAsked;
        spareAsked = before;
        areTold = false;
        told.begin(0);
        left.clear();
        return asked.stars();
    }

    public int values() {
        takeTape();
        int leaves = asked.stars();
        reader.readValues(spareTold, leaves);
        faultAt = reader.badPlace();
        if (faultAt != NONE) {
            return NONE;
        }
        Pattern before = told;
        told = spareTold;
        spareTold = before;
        areTold = true;
        return leaves;
    }

    private void takeTape() {
        reader.begin(tapeSize);
        tapeSize = 0;
    }

    public int fault() {
        return faultAt;
    }

    public boolean set(int what, int v) {
        if (!worker.setLimit(what, v)) {
            return false;
        }
        left.clear();
        return true;
    }

    public int is(int what) {
        switch (what) {
            case 0:
                return functions.size;
            case 1:
                return asked.stars();
            case 2:
                return areTold ? asked.stars() : 0;
            case 3:
                return worker.unroll;
            case 4:
                return worker.variants;
            case 5:
                return worker.budget;
            case 6:
                return tapeSize;
            case 7:
                return functions.things;
            default:
                return NONE;
        }
    }

    public int function(int k, int what) {
        return functions.about(k, what);
    }

    public int specialise() {
        worker.begin(functions, asked);
        for (int n = 0; n < MOST_STEPS && worker.isWorking(); n++) {
            worker.step();
        }
        return worker.answer();
    }

    public int residue(int what) {
        return left.about(what);
    }

    public int variant(int k, int what) {
        return left.aboutVariant(k, what);
    }

    public int kinds(int k, int kind) {
        if (!left.hasVariant(k) || kind < 0 || kind >= Residue.KINDS) {
            return NONE;
        }
        return left.countOf(k, kind);
    }

    public int run(int where, int what) {
        if (what < 0 || what >= Outcome.TOLD || !canRun(where)) {
            return NONE;
        }
        if (where == 0) {
            sourceRun.runTask(functions, asked, told, latest);
        } else {
            residueRun.runResidue(left, told, latest);
        }
        if (latest.end == Outcome.DONE) {
            shown.copyFrom(latest.value);
        }
        return latest.about(what);
    }

    private boolean canRun(int where) {
        if (where != 0 && where != 1) {
            return false;
        }
        return (where == 0 || left.there) && (areTold || asked.stars() == 0);
    }

    public int output(int k, int what) {
        return latest.aboutOutput(k, what);
    }

    public int place(int d) {
        return latest.placeBits(d);
    }

    public int value() {
        if (shown.size == 0) {
            return NONE;
        }
        return text.writeValue(shown);
    }

    public int write(int k) {
        if (!left.hasVariant(k)) {
            return NONE;
        }
        return text.writeVariant(left, k);
    }

    public int octet(int k) {
        return text.byteAt(k);
    }

    public int agree() {
        if (!runBoth()) {
            return NONE;
        }
        return ofSource.isLike(ofResidue) ? 1 : 0;
    }

    public int saved() {
        if (!runBoth() || ofSource.end != Outcome.DONE || ofResidue.end != Outcome.DONE) {
            return NOT_SAVED;
        }
        return ofSource.calls - ofResidue.calls;
    }

    /** The outcome of the latest run() stays untouched: these two RUNS are weighed, not shown. */
    private boolean runBoth() {
        if (!canRun(0) || !canRun(1)) {
            return false;
        }
        sourceRun.runTask(functions, asked, told, ofSource);
        residueRun.runResidue(left, told, ofResidue);
        return true;
    }

    public int op(int a, int sign, int b) {
        if (!Numbers.isSign(sign)) {
            return 0;
        }
        long of = Numbers.apply(sign, Numbers.make(Numbers.FLOAT, a), Numbers.make(Numbers.FLOAT, b));
        return Numbers.bits(of);
    }

    /**
     * A VALUE, a SYMBOL or a token is one long: its kind above, its bits (or its place in the store, or
     * its number) below. FLOATS are reckoned by their bits: the language rules leave no way from a
     * float to its bits, and no float that is nan.
     */
    private static final class Numbers {
        static final int INT = 0;
        static final int FLOAT = 1;
        static final int PAIR = 2;
        static final int REGISTER = 3;
        static final int STAR = 4;
        static final long ZERO = 0L;

        private static final int NAN = 0x7fc00000;
        private static final int INFINITE = 0x7f800000;
        /** Takes the sign from a FLOAT; it is the greatest INT, too. */
        static final int SIZE = 0x7fffffff;
        private static final int HIDDEN = 0x00800000;
        /** Added to a FLOAT's exponent: that of its last bit is then the exponent less this. */
        private static final int BIAS = 150;
        private static final int LEAST = -149;

        static long make(int kind, int bits) {
            return ((long) kind << 32) | (bits & 0xffffffffL);
        }

        static int kind(long v) {
            return (int) (v >>> 32);
        }

        static int bits(long v) {
            return (int) v;
        }

        static boolean isKnown(long v) {
            return v >>> 32 <= FLOAT;
        }

        static boolean isSign(int sign) {
            return sign == '+' || sign == '-' || sign == '*' || sign == '/' || sign == '%'
                || sign == '<' || sign == '=';
        }

        static long apply(int sign, long a, long b) {
            if (sign == '%') {
                return make(INT, rest(cut(a), cut(b)));
            }
            if (kind(a) == INT && kind(b) == INT) {
                return make(INT, applyInts(sign, bits(a), bits(b)));
            }
            int x = floatBits(a);
            int y = floatBits(b);
            boolean nan = isNan(x) || isNan(y);
            switch (sign) {
                case '<':
                    return make(INT, isBelow(x, y) ? 1 : 0);
                case '=':
                    return make(INT, isEqual(x, y) ? 1 : 0);
                case '+':
                    return make(FLOAT, nan ? NAN : add(x, y));
                case '-':
                    return make(FLOAT, nan ? NAN : add(x, y ^ ~SIZE));
                case '*':
                    return make(FLOAT, nan ? NAN : multiply(x, y));
                default:
                    return make(FLOAT, nan ? NAN : divide(x, y));
            }
        }

        private static int rest(int a, int b) {
            return b == 0 || b == -1 ? 0 : a % b;
        }

        private static int applyInts(int sign, int a, int b) {
            switch (sign) {
                case '+':
                    return a + b;
                case '-':
                    return a - b;
                case '*':
                    return a * b;
                case '/':
                    return b == 0 ? 0 : a / b;
                case '<':
                    return a < b ? 1 : 0;
                default:
                    return a == b ? 1 : 0;
            }
        }

        /** $ ^ # of a known number. */
        static long turn(int sign, long a) {
            if (sign == '$') {
                return make(INT, cut(a));
            }
            if (sign == '^') {
                return make(FLOAT, floatBits(a));
            }
            return make(INT, floatBits(a));
        }

        static boolean isTrue(long a) {
            return kind(a) == FLOAT ? (bits(a) & SIZE) != 0 : bits(a) != 0;
        }

        /** What a PLACE holds, once a number is PUT there. */
        static long stored(int place, long a) {
            return place < 4 ? make(INT, cut(a)) : make(FLOAT, floatBits(a));
        }

        static int floatBits(long a) {
            int bits = bits(a);
            if (kind(a) == FLOAT) {
                return isNan(bits) ? NAN : bits;
            }
            long wide = bits;
            return wide < 0 ? pack(1, -wide, 0) : pack(0, wide, 0);
        }

        static int cut(long a) {
            int bits = bits(a);
            if (kind(a) != FLOAT) {
                return bits;
            }
            if (isNan(bits)) {
                return 0;
            }
            int lastBit = lastBitOf(bits);
            if (lastBit > 7) {
                return bits < 0 ? ~SIZE : SIZE;
            }
            if (lastBit < -24) {
                return 0;
            }
            int size = (int) (lastBit >= 0 ? wholeOf(bits) << lastBit : wholeOf(bits) >> -lastBit);
            return bits < 0 ? -size : size;
        }

        private static boolean isNan(int x) {
            return (x & SIZE) > INFINITE;
        }

        static boolean isBelow(int x, int y) {
            return !isNan(x) && !isNan(y) && ordered(x) < ordered(y);
        }

        private static boolean isEqual(int x, int y) {
            return !isNan(x) && !isNan(y) && ordered(x) == ordered(y);
        }

        /** An INT that lies among others as the FLOAT does: both zeros are one. */
        private static int ordered(int x) {
            return x < 0 ? -(x & SIZE) : x;
        }

        /** A finite FLOAT is wholeOf times 2 to the lastBitOf. */
        private static long wholeOf(int x) {
            int behind = x & (HIDDEN - 1);
            return (x & INFINITE) == 0 ? behind : behind | HIDDEN;
        }

        private static int lastBitOf(int x) {
            int exponent = (x & INFINITE) >>> 23;
            return (exponent == 0 ? 1 : exponent) - BIAS;
        }

        private static int add(int x, int y) {
            boolean xIsInfinite = (x & SIZE) == INFINITE;
            if (xIsInfinite || (y & SIZE) == INFINITE) {
                boolean against = (x ^ y) == ~SIZE;
                return against ? NAN : xIsInfinite ? x : y;
            }
            int high = (x & SIZE) >= (y & SIZE) ? x : y;
            int low = high == x ? y : x;
            int apart = lastBitOf(high) - lastBitOf(low);
            if (apart > 36) {
                // The low one is far less than half of the high one's last bit.
                return high;
            }
            long whole = wholeOf(high) << apart;
            whole = (x ^ y) < 0 ? whole - wholeOf(low) : whole + wholeOf(low);
            if (whole == 0) {
                return x & y & ~SIZE;
            }
            return pack(high >>> 31, whole, lastBitOf(low));
        }

        private static int multiply(int x, int y) {
            int sign = (x ^ y) >>> 31;
            boolean infinite = (x & SIZE) == INFINITE || (y & SIZE) == INFINITE;
            boolean zero = (x & SIZE) == 0 || (y & SIZE) == 0;
            if (infinite) {
                return zero ? NAN : (sign << 31) | INFINITE;
            }
            return pack(sign, wholeOf(x) * wholeOf(y), lastBitOf(x) + lastBitOf(y));
        }

        /** Of two that are not nan. */
        static int divide(int x, int y) {
            int sign = (x ^ y) >>> 31;
            boolean xIsInfinite = (x & SIZE) == INFINITE;
            boolean yIsInfinite = (y & SIZE) == INFINITE;
            long above = wholeOf(x);
            long below = wholeOf(y);
            if (xIsInfinite) {
                return yIsInfinite ? NAN : (sign << 31) | INFINITE;
            }
            if (yIsInfinite) {
                return sign << 31;
            }
            if (below == 0) {
                return above == 0 ? NAN : (sign << 31) | INFINITE;
            }
            if (above == 0) {
                return sign << 31;
            }
            // The first one's top bit is brought to 60, so that the quotient has bits to spare.
            int shift = Long.numberOfLeadingZeros(above) - 3;
            above = above << shift;
            long of = above / below;
            long sticky = above % below == 0 ? 0 : 1;
            return pack(sign, of | sticky, lastBitOf(x) - lastBitOf(y) - shift);
        }

        /** The FLOAT nearest to whole times 2 to the lastBit (to the even one of two). */
        private static int pack(int sign, long whole, int lastBit) {
            if (whole == 0) {
                return sign << 31;
            }
            int width = 64 - Long.numberOfLeadingZeros(whole);
            int kept = Math.max(lastBit + width - 24, LEAST);
            int dropped = kept - lastBit;
            long near = 0;
            if (dropped <= 0) {
                near = whole << -dropped;
            } else if (dropped <= 62) {
                near = whole >> dropped;
                long rest = whole - (near << dropped);
                long half = 1L << (dropped - 1);
                near += rest > half || rest == half && (near & 1) == 1 ? 1 : 0;
            }
            if (near >= 2L * HIDDEN) {
                near = near >> 1;
                kept++;
            }
            if (kept + BIAS >= 255) {
                return (sign << 31) | INFINITE;
            }
            int field = near < HIDDEN ? 0 : kept + BIAS;
            return (sign << 31) | (field << 23) | ((int) near & (HIDDEN - 1));
        }
    }

    /**
     * Parts of a TASK, VALUES or a VARIANT's PATTERNS, one behind the other, a PAIR ahead of its two
     * parts; beside each part the SYMBOL that stands there, where there is one.
     */
    private static final class Pattern {
        static final int HEAVIEST = 40;
        static final int ARGUMENTS = 5;
        static final long PAIR_TOKEN = (long) Numbers.PAIR << 32;
        static final long STAR_TOKEN = (long) Numbers.STAR << 32;

        final long[] row;
        final long[] standing;
        int size;
        /** The function: its letter (0 on) times six and how many arguments. */
        int key;

        Pattern(int room) {
            row = new long[room];
            standing = new long[room];
            size = 0;
            key = 0;
        }

        void begin(int ofKey) {
            size = 0;
            key = ofKey;
        }

        void add(long token, long symbol) {
            if (size < row.length) {
                row[size] = token;
                standing[size] = symbol;
                size++;
            }
        }

        void copyFrom(Pattern other) {
            begin(other.key);
            addParts(other, 0, other.size);
        }

        private void addParts(Pattern other, int from, int behind) {
            for (int i = from; i < behind && i < other.size; i++) {
                add(other.row[i], other.standing[i]);
            }
        }

        int stars() {
            int n = 0;
            for (int i = 0; i < size; i++) {
                if (Numbers.kind(row[i]) == Numbers.STAR) {
                    n++;
                }
            }
            return n;
        }

        int numbers() {
            int n = 0;
            for (int i = 0; i < size; i++) {
                if (Numbers.isKnown(row[i])) {
                    n++;
                }
            }
            return n;
        }

        boolean isSame(Pattern other) {
            if (key != other.key || size != other.size) {
                return false;
            }
            for (int i = 0; i < size && i < other.size; i++) {
                if (row[i] != other.row[i]) {
                    return false;
                }
            }
            return true;
        }

        /** Where the part that begins at a place ends. */
        int behind(int from) {
            int open = 1;
            int i = Math.max(0, from);
            while (i < size && open > 0) {
                open += Numbers.kind(row[i]) == Numbers.PAIR ? 1 : -1;
                i++;
            }
            return i;
        }

        /** Puts what is left of this one beside another of its function: how many were let go. */
        int growBeside(Pattern there, Pattern into) {
            into.begin(key);
            int letGo = 0;
            int i = 0;
            int j = 0;
            for (int n = 0; n < row.length && i < size && j < there.size; n++) {
                int next = behind(i);
                if (row[i] == PAIR_TOKEN && there.row[j] == PAIR_TOKEN) {
                    into.add(row[i], standing[i]);
                    i++;
                    j++;
                    continue;
                }
                if (isGrown(row[i], there.row[j])) {
                    into.add(STAR_TOKEN, standing[i]);
                    letGo++;
                } else {
                    into.addParts(this, i, next);
                }
                i = next;
                j = there.behind(j);
            }
            return letGo;
        }

        private static boolean isGrown(long mine, long there) {
            if (!Numbers.isKnown(there)) {
                return false;
            }
            if (mine == PAIR_TOKEN) {
                return true;
            }
            if (!Numbers.isKnown(mine) || mine == there) {
                return false;
            }
            int size = Numbers.floatBits(mine) & Numbers.SIZE;
            return !Numbers.isBelow(size, Numbers.floatBits(there) & Numbers.SIZE);
        }

        /** The same call with nothing known. */
        void letAllGo(Pattern into) {
            into.begin(key);
            int i = 0;
            while (i < size) {
                into.add(STAR_TOKEN, standing[i]);
                i = Math.max(behind(i), i + 1);
            }
        }
    }

    /** The PAIRS, the stack and the VARS of the RUN or of the VARIANT at hand: one for all of them. */
    private static final class Store {
        /** 100 calls of 300 INSTRUCTIONS each, and what is told ahead. */
        private static final int ROOM = 30200;
        private static final int DEEPEST = 64;
        /** One frame for each call under way, and one for what is told ahead. */
        private static final int FRAMES = Outcome.DEEPEST + 1;
        /** Five arguments, and no more VARS of : than things may lie in one another. */
        static final int SLOTS = 32;
        private static final int THINGS = 80;

        private final long[] first;
        private final long[] second;
        private final int[] weight;
        private final int[] deep;
        private final long[] pile;
        private int size;
        private final long[] stack;
        private int top;
        private final long[] vars;
        private final int[] back;
        int depth;

        Store() {
            first = new long[ROOM];
            second = new long[ROOM];
            weight = new int[ROOM];
            deep = new int[ROOM];
            pile = new long[Pattern.ARGUMENTS * Pattern.HEAVIEST + DEEPEST];
            stack = new long[FRAMES * THINGS];
            vars = new long[FRAMES * SLOTS];
            back = new int[FRAMES];
            size = 0;
            top = 0;
            depth = 0;
        }

        void clear() {
            size = 0;
            top = 0;
            depth = 0;
        }

        void push(long v) {
            if (top < stack.length) {
                stack[top] = v;
                top++;
            }
        }

        long pop() {
            if (top < 1) {
                return Numbers.ZERO;
            }
            top--;
            return stack[top];
        }

        long popNum() {
            return num(pop());
        }

        void drop(int n) {
            top = Math.max(0, top - n);
        }

        /** What lies below k others on the stack. */
        long fromTop(int k) {
            int place = top - 1 - k;
            return place >= 0 && place < top ? stack[place] : Numbers.ZERO;
        }

        /** Moves what is on top into the VARS of the frame at hand, the last one first. */
        void bindArguments(int n) {
            for (int k = n - 1; k >= 0; k--) {
                setVar(k, pop());
            }
        }

        long varAt(int slot) {
            int place = depth * SLOTS + slot;
            return place >= 0 && place < vars.length ? vars[place] : Numbers.ZERO;
        }

        void setVar(int slot, long v) {
            int place = depth * SLOTS + slot;
            if (place >= 0 && place < vars.length) {
                vars[place] = v;
            }
        }

        /** A frame of its own for a call, its arguments being on top. */
        void openFrame(int n, int backTo) {
            if (depth + 1 >= FRAMES) {
                return;
            }
            depth++;
            back[depth] = backTo;
            bindArguments(n);
        }

        /** Leaves the frame at hand: where its call stood. */
        int closeFrame() {
            if (depth < 1) {
                return NONE;
            }
            depth--;
            return back[depth + 1];
        }

        long pair(long a, long b) {
            if (size >= ROOM) {
                return Numbers.ZERO;
            }
            first[size] = a;
            second[size] = b;
            weight[size] = 1 + weightOf(a) + weightOf(b);
            deep[size] = 1 + Math.max(deepOf(a), deepOf(b));
            size++;
            return Numbers.make(Numbers.PAIR, size - 1);
        }

        boolean isPair(long v) {
            return v >>> 32 == Numbers.PAIR && (int) v >= 0 && (int) v < size;
        }

        boolean isTooHeavy(long a, long b) {
            return 1 + weightOf(a) + weightOf(b) > Pattern.HEAVIEST;
        }

        int weightOf(long v) {
            return isPair(v) ? weight[Numbers.bits(v)] : 1;
        }

        int deepOf(long v) {
            return isPair(v) ? deep[Numbers.bits(v)] : 0;
        }

        long firstOf(long v) {
            return isPair(v) ? first[Numbers.bits(v)] : v;
        }

        long secondOf(long v) {
            return isPair(v) ? second[Numbers.bits(v)] : Numbers.ZERO;
        }

        long num(long v) {
            long at = v;
            for (int k = 0; k < DEEPEST && isPair(at); k++) {
                at = firstOf(at);
            }
            return at;
        }

        /** Makes what a row tells, leaves standing at its stars: how many it tells. */
        int build(Pattern row, long[] leaves, long[] into) {
            int high = 0;
            int leaf = row.stars();
            for (int i = row.size - 1; i >= 0; i--) {
                long v = row.row[i];
                if (Numbers.kind(v) == Numbers.STAR) {
                    leaf--;
                    v = leaf >= 0 && leaf < leaves.length ? leaves[leaf] : Numbers.ZERO;
                } else if (Numbers.kind(v) == Numbers.PAIR && high >= 2) {
                    high -= 2;
                    v = pair(pile[high + 1], pile[high]);
                }
                if (high < pile.length) {
                    pile[high] = v;
                    high++;
                }
            }
            int n = Math.min(high, into.length);
            for (int k = 0; k < n; k++) {
                into[k] = pile[high - 1 - k];
            }
            return n;
        }

        /** Tells a VALUE or a SYMBOL as a row, a star for each REGISTER. */
        void flatten(long v, Pattern into) {
            pile[0] = v;
            int high = 1;
            for (int k = 0; k < ROOM && high > 0; k++) {
                high--;
                long part = pile[high];
                if (isPair(part) && high + 2 <= pile.length) {
                    into.add(Pattern.PAIR_TOKEN, part);
                    pile[high] = second[Numbers.bits(part)];
                    pile[high + 1] = first[Numbers.bits(part)];
                    high += 2;
                } else {
                    boolean open = Numbers.kind(part) == Numbers.REGISTER;
                    into.add(open ? Pattern.STAR_TOKEN : part, part);
                }
            }
        }
    }

    /** The functions told, each as a row of steps that take from a stack and put there. */
    private static final class Program {
        static final int NUMBER = 0;
        static final int VAR = 1;
        static final int SIGN = 2;
        static final int TURN = 3;
        static final int PART = 4;
        static final int PAIR = 5;
        static final int TEST = 6;
        static final int THEN_END = 7;
        static final int ELSE_END = 8;
        static final int OUT = 9;
        static final int PUT = 10;
        static final int GET = 11;
        static final int BIND = 12;
        static final int CALL = 13;
        static final int RETURN = 14;

        static final int KEYS = 72;
        static final int THINGS = 2;
        static final int CALLS = 3;
        static final int OUTS = 4;
        static final int PLACES = 5;
        private static final int ABOUT = 6;
        /** No thing of a tape takes more than three steps, and each function ends with one. */
        private static final int ROOM = 3 * TAPE_ROOM + KEYS;

        int size;
        int things;
        private int stepCount;
        private final int[] about;
        private final int[] start;
        private final int[] toldAs;
        private final int[] step;
        private final int[] mark;
        private final int[] bits;

        Program() {
            about = new int[KEYS * ABOUT];
            start = new int[KEYS];
            toldAs = new int[KEYS];
            step = new int[ROOM];
            mark = new int[ROOM];
            bits = new int[ROOM];
            size = 0;
            things = 0;
            stepCount = 0;
            for (int k = 0; k < KEYS; k++) {
                toldAs[k] = NONE;
            }
        }

        void clear() {
            size = 0;
            things = 0;
            stepCount = 0;
            for (int k = 0; k < KEYS; k++) {
                toldAs[k] = NONE;
            }
        }

        void begin(int key) {
            if (key < 0 || key >= KEYS || size >= KEYS) {
                return;
            }
            for (int what = 0; what < ABOUT; what++) {
                about[size * ABOUT + what] = 0;
            }
            about[size * ABOUT] = key / 6 + 1;
            about[size * ABOUT + 1] = key % 6;
            start[size] = stepCount;
            toldAs[key] = size;
            size++;
        }

        /** Counts something of the function told last: how many it has then. */
        int count(int what) {
            if (size < 1 || what < 0 || what >= ABOUT) {
                return 0;
            }
            if (what == THINGS) {
                things++;
            }
            about[(size - 1) * ABOUT + what]++;
            return about[(size - 1) * ABOUT + what];
        }

        int add(int aStep, int aMark, int aBits) {
            if (stepCount >= ROOM) {
                return NONE;
            }
            step[stepCount] = aStep;
            mark[stepCount] = aMark;
            bits[stepCount] = aBits;
            stepCount++;
            return stepCount - 1;
        }

        /** A step told ahead goes to what comes next. */
        void leadHere(int from) {
            if (from >= 0 && from < ROOM) {
                mark[from] = stepCount;
            }
        }

        int about(int k, int what) {
            return k < 0 || k >= size || what < 0 || what >= ABOUT ? NONE : about[k * ABOUT + what];
        }

        /** Where the function of a key begins, NONE if it is not told. */
        int startOf(int key) {
            if (key < 0 || key >= KEYS || toldAs[key] < 0 || toldAs[key] >= size) {
                return NONE;
            }
            return start[toldAs[key]];
        }

        int stepAt(int i) {
            return i >= 0 && i < stepCount ? step[i] : RETURN;
        }

        int markAt(int i) {
            return i >= 0 && i < stepCount ? mark[i] : 0;
        }

        int bitsAt(int i) {
            return i >= 0 && i < stepCount ? bits[i] : 0;
        }
    }

    /** Reads the tape as a PROGRAM, as THE TASK or as VALUES, up to the first FAULT. */
    private static final class Reader {
        static final int PARTS = 30;
        private static final int LEAVES = 8;
        private static final int THINGS = 80;
        private static final int DEEPEST = 20;
        private static final int WHOLE_DIGITS = 5;
        private static final int BROKEN_DIGITS = 3;

        private final int[] tape;
        private int size;
        private int at;
        private int bad;
        private Program into;
        /** The VARS that are told where the reader is, by their slots. */
        private final int[] names;
        private int nameCount;

        Reader(int[] aTape, Program first) {
            tape = aTape;
            size = 0;
            at = 0;
            bad = NONE;
            into = first;
            names = new int[Store.SLOTS];
            nameCount = 0;
        }

        void begin(int aSize) {
            size = Math.min(aSize, tape.length);
            at = 0;
            bad = NONE;
        }

        int badPlace() {
            return bad;
        }

        private boolean isWell() {
            return bad == NONE;
        }

        private void fail(int place) {
            if (bad == NONE) {
                bad = place;
            }
        }

        private int here() {
            return at >= 0 && at < size ? tape[at] : NONE;
        }

        private boolean take(int sign) {
            if (!isWell()) {
                return false;
            }
            if (here() != sign) {
                fail(at);
                return false;
            }
            at++;
            return true;
        }

        private static boolean isDigit(int c) {
            return c >= '0' && c <= '9';
        }

        private static boolean isVar(int c) {
            return c >= 'm' && c <= 'z';
        }

        private static boolean isLetter(int c) {
            return c >= 'a' && c <= 'l';
        }

        private static boolean isNumber(int c) {
            return c == '-' || isDigit(c);
        }

        void readProgram(Program aProgram) {
            into = aProgram;
            into.clear();
            for (int k = 0; k <= TAPE_ROOM && isWell() && at < size; k++) {
                readFunction();
            }
        }

        private void readFunction() {
            int letterAt = at;
            int letter = here();
            if (!isLetter(letter)) {
                fail(at);
                return;
            }
            at++;
            nameCount = 0;
            take('(');
            readNames();
            take(')');
            if (!isWell()) {
                return;
            }
            int key = (letter - 'a') * 6 + nameCount;
            if (here() == '=' && into.startOf(key) != NONE) {
                fail(letterAt);
            }
            if (take('=')) {
                into.begin(key);
                readExpression(0);
                take(';');
                into.add(Program.RETURN, 0, 0);
            }
        }

        private void readNames() {
            if (here() == ')') {
                return;
            }
            readName();
            for (int n = 1; n < Pattern.ARGUMENTS && isWell() && here() == ','; n++) {
                at++;
                readName();
            }
        }

        private void readName() {
            if (!isWell()) {
                return;
            }
            int name = here();
            if (!isVar(name) || slotOf(name) != NONE) {
                fail(at);
                return;
            }
            at++;
            nameOne(name);
        }

        private void nameOne(int name) {
            if (nameCount < names.length) {
                names[nameCount] = name;
                nameCount++;
            }
        }

        /** The latest one of a name hides those ahead of it. */
        private int slotOf(int name) {
            for (int slot = nameCount - 1; slot >= 0; slot--) {
                if (slot < names.length && names[slot] == name) {
                    return slot;
                }
            }
            return NONE;
        }

        private void readExpression(int depth) {
            if (!isWell()) {
                return;
            }
            int c = here();
            if (depth >= DEEPEST || into.count(Program.THINGS) > THINGS) {
                fail(at);
            } else if (isNumber(c)) {
                long number = readNumber();
                into.add(Program.NUMBER, Numbers.kind(number), Numbers.bits(number));
            } else if (isVar(c)) {
                readVar(c);
            } else if (isLetter(c)) {
                readCall(c, depth);
            } else {
                readSigned(c, depth);
            }
        }

        private long readNumber() {
            boolean less = here() == '-';
            if (less) {
                at++;
            }
            int digits = readDigits(0, WHOLE_DIGITS);
            if (!isWell() || here() != '.') {
                return Numbers.make(Numbers.INT, less ? -digits : digits);
            }
            at++;
            int from = at;
            digits = readDigits(digits, BROKEN_DIGITS);
            int by = 1;
            for (int k = from; k < at; k++) {
                by *= 10;
            }
            int above = Numbers.floatBits(Numbers.make(Numbers.INT, less ? -digits : digits));
            int below = Numbers.floatBits(Numbers.make(Numbers.INT, by));
            return Numbers.make(Numbers.FLOAT, Numbers.divide(above, below));
        }

        private int readDigits(int ahead, int most) {
            int digits = ahead;
            int n = 0;
            while (n < most && isDigit(here())) {
                digits = digits * 10 + here() - '0';
                at++;
                n++;
            }
            if (n == 0) {
                fail(at);
            }
            return digits;
        }

        private void readVar(int name) {
            int slot = slotOf(name);
            if (slot == NONE) {
                fail(at);
                return;
            }
            at++;
            into.add(Program.VAR, slot, 0);
        }

        private void readCall(int letter, int depth) {
            at++;
            into.count(Program.CALLS);
            take('(');
            int n = 0;
            if (isWell() && here() != ')') {
                readExpression(depth + 1);
                n = 1;
                while (isWell() && here() == ',' && n < Pattern.ARGUMENTS) {
                    at++;
                    readExpression(depth + 1);
                    n++;
                }
            }
            take(')');
            into.add(Program.CALL, (letter - 'a') * 6 + n, n);
        }

        private void readSigned(int sign, int depth) {
            int signAt = at;
            at++;
            switch (sign) {
                case '(':
                    readReckoned(depth);
                    break;
                case '[':
                    readTwo(depth, ']');
                    into.add(Program.PAIR, 0, 0);
                    break;
                case '?':
                    readChoice(depth);
                    break;
                case '$':
                case '^':
                case '#':
                    readExpression(depth + 1);
                    into.add(Program.TURN, sign, 0);
                    break;
                case '@':
                case '~':
                    readExpression(depth + 1);
                    into.add(Program.PART, sign, 0);
                    break;
                case '!':
                    into.count(Program.OUTS);
                    readExpression(depth + 1);
                    into.add(Program.OUT, 0, 0);
                    break;
                case '&':
                case '_':
                    readPlace(sign, depth);
                    break;
                case ':':
                    readNaming(depth);
                    break;
                default:
                    fail(signAt);
                    break;
            }
        }

        private void readTwo(int depth, int last) {
            readExpression(depth + 1);
            take(',');
            readExpression(depth + 1);
            take(last);
        }

        private void readReckoned(int depth) {
            readExpression(depth + 1);
            if (!isWell()) {
                return;
            }
            int sign = here();
            if (!Numbers.isSign(sign)) {
                fail(at);
                return;
            }
            at++;
            readExpression(depth + 1);
            take(')');
            into.add(Program.SIGN, sign, 0);
        }

        private void readChoice(int depth) {
            take('(');
            readExpression(depth + 1);
            take(',');
            int test = into.add(Program.TEST, 0, 0);
            readExpression(depth + 1);
            take(',');
            int thenEnd = into.add(Program.THEN_END, 0, 0);
            into.leadHere(test);
            readExpression(depth + 1);
            take(')');
            into.add(Program.ELSE_END, 0, 0);
            into.leadHere(thenEnd);
        }

        private void readPlace(int sign, int depth) {
            int place = here() - '0';
            if (place < 0 || place >= Outcome.PLACES) {
                fail(at);
                return;
            }
            at++;
            into.count(Program.PLACES);
            if (sign == '_') {
                into.add(Program.GET, place, 0);
                return;
            }
            readExpression(depth + 1);
            into.add(Program.PUT, place, 0);
        }

        private void readNaming(int depth) {
            int name = here();
            if (!isVar(name)) {
                fail(at);
                return;
            }
            at++;
            take('=');
            readExpression(depth + 1);
            take(',');
            into.add(Program.BIND, nameCount, 0);
            int before = nameCount;
            nameOne(name);
            readExpression(depth + 1);
            nameCount = before;
        }

        void readTask(Pattern task) {
            task.begin(0);
            int letter = here();
            if (!isLetter(letter)) {
                fail(at);
                return;
            }
            at++;
            take('(');
            int n = 0;
            if (isWell() && here() != ')') {
                readPart(task, LEAVES, 0);
                n = 1;
                while (isWell() && here() == ',' && n < Pattern.ARGUMENTS) {
                    at++;
                    readPart(task, LEAVES, 0);
                    n++;
                }
            }
            take(')');
            task.key = (letter - 'a') * 6 + n;
            takeEnd();
        }

        void readValues(Pattern values, int leaves) {
            values.begin(0);
            for (int k = 0; k < leaves && isWell(); k++) {
                if (k > 0) {
                    take(',');
                }
                readPart(values, 0, 0);
            }
            takeEnd();
        }

        private void takeEnd() {
            if (isWell() && at < size) {
                fail(at);
            }
        }

        private void readPart(Pattern parts, int stars, int depth) {
            if (!isWell()) {
                return;
            }
            int c = here();
            if (parts.size >= PARTS || depth > PARTS) {
                fail(at);
            } else if (c == '[') {
                at++;
                parts.add(Pattern.PAIR_TOKEN, Numbers.ZERO);
                readPart(parts, stars, depth + 1);
                take(',');
                readPart(parts, stars, depth + 1);
                take(']');
            } else if (isNumber(c)) {
                parts.add(readNumber(), Numbers.ZERO);
            } else if (c == '*' && parts.stars() < stars) {
                at++;
                parts.add(Pattern.STAR_TOKEN, Numbers.ZERO);
            } else {
                fail(at);
            }
        }
    }

    /** How a RUN goes and ends. */
    private static final class Outcome {
        static final int RUNNING = -1;
        static final int DONE = 0;
        static final int TOO_MANY = 1;
        static final int TOO_HEAVY = 2;
        static final int TOO_DEEP = 3;
        static final int NOT_TOLD = 4;

        static final int TOLD = 6;
        static final int PLACES = 8;
        static final int DEEPEST = 30;
        private static final int MOST_CALLS = 100;
        private static final int KEPT = 60;

        int end;
        int calls;
        private int depth;
        private int most;
        private int written;
        private int weight;
        private int deep;
        private final long[] kept;
        private final int[] places;
        final Pattern value;

        Outcome() {
            kept = new long[KEPT];
            places = new int[PLACES];
            value = new Pattern(Pattern.HEAVIEST);
            begin();
        }

        private void begin() {
            end = RUNNING;
            calls = 0;
            depth = 0;
            most = 0;
            written = 0;
            weight = 0;
            deep = 0;
            value.begin(0);
            for (int d = 0; d < PLACES; d++) {
                places[d] = 0;
            }
        }

        void clear() {
            begin();
        }

        boolean isRunning() {
            return end == RUNNING;
        }

        /** Whether one call more may begin; if not, the RUN has ended. */
        boolean beginCall() {
            if (calls >= MOST_CALLS) {
                end = TOO_MANY;
            } else if (depth >= DEEPEST) {
                end = TOO_DEEP;
            } else {
                calls++;
                depth++;
                most = Math.max(most, depth);
            }
            return isRunning();
        }

        void endCall() {
            depth--;
        }

        void endWith(Store store, long v) {
            end = DONE;
            weight = store.weightOf(v);
            deep = store.deepOf(v);
            store.flatten(v, value);
        }

        void writeOut(long num) {
            if (written < KEPT) {
                kept[written] = num;
            }
            written++;
        }

        long put(int d, long stored) {
            if (d >= 0 && d < PLACES) {
                places[d] = Numbers.bits(stored);
            }
            return stored;
        }

        long get(int d) {
            return Numbers.make(d < 4 ? Numbers.INT : Numbers.FLOAT, placeBits(d));
        }

        int placeBits(int d) {
            return d >= 0 && d < PLACES ? places[d] : 0;
        }

        int about(int what) {
            switch (what) {
                case 0:
                    return end;
                case 1:
                    return calls;
                case 2:
                    return written;
                case 3:
                    return weight;
                case 4:
                    return deep;
                case 5:
                    return most;
                default:
                    return NONE;
            }
        }

        private int keptCount() {
            return Math.min(written, KEPT);
        }

        int aboutOutput(int k, int what) {
            if (k < 0 || k >= keptCount() || what < 0 || what > 1) {
                return NONE;
            }
            return what == 0 ? Numbers.kind(kept[k]) : Numbers.bits(kept[k]);
        }

        boolean isLike(Outcome other) {
            if (end != other.end || !value.isSame(other.value) || keptCount() != other.keptCount()) {
                return false;
            }
            for (int k = 0; k < keptCount(); k++) {
                if (kept[k] != other.kept[k]) {
                    return false;
                }
            }
            for (int d = 0; d < PLACES; d++) {
                if (places[d] != other.places[d]) {
                    return false;
                }
            }
            return true;
        }
    }

    /** RUNS of THE TASK. */
    private static final class SourceRun {
        private final Store store;
        private final long[] leaves;
        private final long[] arguments;
        private Program program;
        private Outcome out;
        private int at;

        SourceRun(Store aStore, Program first, Outcome firstInto) {
            store = aStore;
            leaves = new long[Residue.MOST_STARS];
            arguments = new long[Pattern.ARGUMENTS];
            program = first;
            out = firstInto;
            at = NONE;
        }

        void runTask(Program aProgram, Pattern task, Pattern told, Outcome into) {
            program = aProgram;
            out = into;
            out.clear();
            store.clear();
            store.build(told, leaves, leaves);
            int n = store.build(task, leaves, arguments);
            for (int k = 0; k < n; k++) {
                if (store.weightOf(arguments[k]) > Pattern.HEAVIEST) {
                    out.end = Outcome.TOO_HEAVY;
                    return;
                }
                store.push(arguments[k]);
            }
            call(task.key, n);
            for (int k = 0; k < MOST_STEPS && out.isRunning(); k++) {
                step();
            }
        }

        private void step() {
            int what = program.stepAt(at);
            int mark = program.markAt(at);
            int bits = program.bitsAt(at);
            at++;
            switch (what) {
                case Program.NUMBER:
                    store.push(Numbers.make(mark, bits));
                    break;
                case Program.VAR:
                    store.push(store.varAt(mark));
                    break;
                case Program.SIGN:
                    long behind = store.popNum();
                    store.push(Numbers.apply(mark, store.popNum(), behind));
                    break;
                case Program.TURN:
                    store.push(Numbers.turn(mark, store.popNum()));
                    break;
                case Program.PART:
                    long whole = store.pop();
                    store.push(mark == '@' ? store.firstOf(whole) : store.secondOf(whole));
                    break;
                case Program.PAIR:
                    makePair();
                    break;
                case Program.TEST:
                    at = Numbers.isTrue(store.popNum()) ? at : mark;
                    break;
                case Program.THEN_END:
                    at = mark;
                    break;
                case Program.ELSE_END:
                    break;
                case Program.OUT:
                    out.writeOut(store.num(store.fromTop(0)));
                    break;
                case Program.PUT:
                    store.push(out.put(mark, Numbers.stored(mark, store.popNum())));
                    break;
                case Program.GET:
                    store.push(out.get(mark));
                    break;
                case Program.BIND:
                    store.setVar(mark, store.pop());
                    break;
                case Program.CALL:
                    call(mark, bits);
                    break;
                default:
                    goBack();
                    break;
            }
        }

        private void makePair() {
            long second = store.pop();
            long first = store.pop();
            if (store.isTooHeavy(first, second)) {
                out.end = Outcome.TOO_HEAVY;
            } else {
                store.push(store.pair(first, second));
            }
        }

        private void call(int key, int n) {
            int start = program.startOf(key);
            if (start == NONE) {
                out.end = Outcome.NOT_TOLD;
            } else if (out.beginCall()) {
                store.openFrame(n, at);
                at = start;
            }
        }

        private void goBack() {
            out.endCall();
            at = store.closeFrame();
            if (store.depth < 1) {
                out.endWith(store, store.pop());
            }
        }
    }

    /** What is left over: VARIANTS, their BLOCKS and the INSTRUCTIONS in these, in chains. */
    private static final class Residue {
        static final int RECKON = 0;
        static final int CUT = 1;
        static final int TO_FLOAT = 2;
        static final int TO_BITS = 3;
        static final int FIRST = 4;
        static final int SECOND = 5;
        static final int IF = 6;
        static final int OUT = 7;
        static final int PUT = 8;
        static final int GET = 9;
        static final int PAIR = 10;
        static final int CALL = 11;
        static final int UNTOLD = 12;
        static final int KINDS = 13;

        static final int MOST_CODE = 300;
        static final int MOST_VARIANTS = 24;
        static final int MOST_STARS = 8;
        /** The VARIANTS' own, and two of each IF, of which 20 may be under way. */
        private static final int MOST_BLOCKS = MOST_VARIANTS + 2 * (MOST_CODE + 24);

        /** The columns of an INSTRUCTION: the MARK is its sign, its PLACE or the VARIANT called. */
        static final int KIND = 0;
        static final int REGISTER = 1;
        static final int MARK = 2;
        static final int ONE = 3;
        static final int TWO = 4;
        static final int NEXT = 5;
        static final int OWNER = 6;
        static final int ARGUMENTS = 7;
        private static final int COLUMNS = 8;
        /** Its operands: two of its own, then what stands at the stars of a VARIANT called. */
        static final int AT_STARS = 2;
        private static final int OPERANDS = AT_STARS + MOST_STARS;

        /** The columns of a VARIANT. */
        static final int PARENT = 0;
        static final int CALLED = 1;
        static final int REGISTERS = 2;
        static final int BLOCK = 3;
        private static final int VARIANT_COLUMNS = 4;

        boolean there;
        int count;
        int variants;
        int unrolled;
        int grown;
        int letGo;
        private int blocks;
        private final int[] cells;
        private final long[] operands;
        private final int[] blockFirst;
        private final int[] blockLast;
        private final long[] blockEnd;
        private final int[] variantCells;
        private final Pattern[] patterns;

        Residue() {
            cells = new int[MOST_CODE * COLUMNS];
            operands = new long[MOST_CODE * OPERANDS];
            blockFirst = new int[MOST_BLOCKS];
            blockLast = new int[MOST_BLOCKS];
            blockEnd = new long[MOST_BLOCKS];
            variantCells = new int[MOST_VARIANTS * VARIANT_COLUMNS];
            patterns = new Pattern[MOST_VARIANTS];
            for (int k = 0; k < MOST_VARIANTS; k++) {
                patterns[k] = new Pattern(Pattern.ARGUMENTS * Pattern.HEAVIEST);
            }
            there = false;
            count = 0;
            variants = 0;
            unrolled = 0;
            grown = 0;
            letGo = 0;
            blocks = 0;
        }

        void clear() {
            there = false;
            count = 0;
            variants = 0;
            unrolled = 0;
            grown = 0;
            letGo = 0;
            blocks = 0;
        }

        boolean hasVariant(int k) {
            return there && k >= 0 && k < variants;
        }

        Pattern patternOf(int k) {
            return patterns[Math.max(0, Math.min(k, MOST_VARIANTS - 1))];
        }

        int ofVariant(int k, int column) {
            return k >= 0 && k < variants ? variantCells[k * VARIANT_COLUMNS + column] : NONE;
        }

        void setVariant(int k, int column, int v) {
            if (k >= 0 && k < variants) {
                variantCells[k * VARIANT_COLUMNS + column] = v;
            }
        }

        /** The VARIANT of a call, NONE if there is none yet. */
        int find(Pattern call) {
            for (int k = 0; k < variants && k < MOST_VARIANTS; k++) {
                if (patterns[k].isSame(call)) {
                    return k;
                }
            }
            return NONE;
        }

        int variantsOf(int key) {
            int n = 0;
            for (int k = 0; k < variants && k < MOST_VARIANTS; k++) {
                if (patterns[k].key == key) {
                    n++;
                }
            }
            return n;
        }

        /** A VARIANT behind all there are: its number, NONE if there is no room for it. */
        int addVariant(Pattern call, int parent) {
            if (variants >= MOST_VARIANTS) {
                return NONE;
            }
            int k = variants;
            variants++;
            patterns[k].copyFrom(call);
            setVariant(k, PARENT, parent);
            setVariant(k, CALLED, 0);
            setVariant(k, REGISTERS, call.stars());
            setVariant(k, BLOCK, NONE);
            return k;
        }

        int addBlock() {
            if (blocks >= MOST_BLOCKS) {
                return NONE;
            }
            blockFirst[blocks] = NONE;
            blockLast[blocks] = NONE;
            blockEnd[blocks] = Numbers.ZERO;
            blocks++;
            return blocks - 1;
        }

        private boolean isBlock(int block) {
            return block >= 0 && block < blocks;
        }

        void endBlock(int block, long symbol) {
            if (isBlock(block)) {
                blockEnd[block] = symbol;
            }
        }

        int firstOf(int block) {
            return isBlock(block) ? blockFirst[block] : NONE;
        }

        long endOf(int block) {
            return isBlock(block) ? blockEnd[block] : Numbers.ZERO;
        }

        /** An INSTRUCTION at the end of a BLOCK; each has a REGISTER of its VARIANT but the OUTS. */
        int addInstruction(int kind, int mark, int variant, int block) {
            boolean inside = block >= 0 && block < blocks && variant >= 0 && variant < variants;
            if (count >= MOST_CODE || !inside) {
                return NONE;
            }
            int i = count;
            int row = i * COLUMNS;
            count++;
            for (int column = 0; column < COLUMNS; column++) {
                cells[row + column] = NONE;
            }
            cells[row + KIND] = kind;
            cells[row + MARK] = mark;
            cells[row + OWNER] = variant;
            cells[row + ARGUMENTS] = 0;
            if (kind != OUT) {
                int registers = variant * VARIANT_COLUMNS + REGISTERS;
                cells[row + REGISTER] = variantCells[registers];
                variantCells[registers]++;
            }
            int last = blockLast[block];
            if (last == NONE) {
                blockFirst[block] = i;
            } else {
                cells[last * COLUMNS + NEXT] = i;
            }
            blockLast[block] = i;
            return i;
        }

        int cell(int i, int column) {
            return i >= 0 && i < count && column < COLUMNS ? cells[i * COLUMNS + column] : NONE;
        }

        void setCell(int i, int column, int v) {
            if (i >= 0 && i < count && column < COLUMNS) {
                cells[i * COLUMNS + column] = v;
            }
        }

        long operand(int i, int k) {
            boolean inside = i >= 0 && i < count && k >= 0 && k < OPERANDS;
            return inside ? operands[i * OPERANDS + k] : Numbers.ZERO;
        }

        void setOperand(int i, int k, long symbol) {
            if (i >= 0 && i < count && k >= 0 && k < OPERANDS) {
                operands[i * OPERANDS + k] = symbol;
            }
        }

        /** How many INSTRUCTIONS a VARIANT (NONE: all) has of a kind (NONE: of any). */
        int countOf(int variant, int kind) {
            int n = 0;
            for (int i = 0; i < count; i++) {
                boolean mine = variant == NONE || cell(i, OWNER) == variant;
                if (mine && (kind == NONE || cell(i, KIND) == kind)) {
                    n++;
                }
            }
            return n;
        }

        int about(int what) {
            if (!there) {
                return NONE;
            }
            switch (what) {
                case 0:
                    return variants;
                case 1:
                    return count;
                case 2:
                    return unrolled;
                case 3:
                    return countOf(NONE, CALL);
                case 4:
                    return countOf(NONE, OUT);
                case 5:
                    return countOf(NONE, PUT) + countOf(NONE, GET);
                case 6:
                    return countOf(NONE, PAIR);
                case 7:
                    return countOf(NONE, IF);
                case 8:
                    return grown;
                case 9:
                    return letGo;
                default:
                    return NONE;
            }
        }

        int aboutVariant(int k, int what) {
            if (!hasVariant(k)) {
                return NONE;
            }
            switch (what) {
                case 0:
                    return patternOf(k).key / 6 + 1;
                case 1:
                    return ofVariant(k, REGISTERS);
                case 2:
                    return patternOf(k).stars();
                case 3:
                    return countOf(k, NONE);
                case 4:
                    return ofVariant(k, PARENT);
                case 5:
                    return ofVariant(k, CALLED);
                case 6:
                    return patternOf(k).numbers();
                default:
                    return NONE;
            }
        }
    }

    /** RUNS of the RESIDUE. */
    private static final class ResidueRun {
        /** 20 IFS may lie in one another in each of the calls that are under way. */
        private static final int OPEN_ROOM = 24 * (Outcome.DEEPEST + 1);
        private static final int MOST_REGISTERS = Residue.MOST_STARS + Residue.MOST_CODE;

        private final Store store;
        private final long[] registers;
        private final long[] leaves;
        /** The BLOCKS that are under way, and the INSTRUCTION that is at hand in each. */
        private final int[] openBlock;
        private final int[] openAt;
        private int open;
        private int base;
        private Residue code;
        private Outcome out;

        ResidueRun(Store aStore, Residue first, Outcome firstInto) {
            store = aStore;
            registers = new long[(Outcome.DEEPEST + 1) * MOST_REGISTERS];
            leaves = new long[Residue.MOST_STARS];
            openBlock = new int[OPEN_ROOM];
            openAt = new int[OPEN_ROOM];
            code = first;
            out = firstInto;
            open = 0;
            base = 0;
        }

        void runResidue(Residue aCode, Pattern told, Outcome into) {
            code = aCode;
            out = into;
            out.clear();
            store.clear();
            open = 0;
            base = 0;
            int n = store.build(told, leaves, leaves);
            out.beginCall();
            for (int k = 0; k < n; k++) {
                setRegister(base, k, leaves[k]);
            }
            enter(code.ofVariant(0, Residue.BLOCK));
            for (int k = 0; k < MOST_STEPS && open >= 1 && out.isRunning(); k++) {
                int at = openAt[open - 1];
                if (at == NONE) {
                    endBlock();
                } else {
                    step(at);
                }
            }
        }

        private void enter(int block) {
            if (open < OPEN_ROOM) {
                openBlock[open] = block;
                openAt[open] = code.firstOf(block);
                open++;
            }
        }

        private void setRegister(int from, int register, long v) {
            int place = from + register;
            if (register >= 0 && place >= 0 && place < registers.length) {
                registers[place] = v;
            }
        }

        private long known(long symbol) {
            if (Numbers.kind(symbol) != Numbers.REGISTER) {
                return symbol;
            }
            int place = base + Numbers.bits(symbol);
            return place >= 0 && place < registers.length ? registers[place] : Numbers.ZERO;
        }

        private long operand(int at, int k) {
            return known(code.operand(at, k));
        }

        private long num(int at, int k) {
            return store.num(operand(at, k));
        }

        private void endBlock() {
            long v = known(code.endOf(openBlock[open - 1]));
            open--;
            if (open < 1) {
                out.endWith(store, v);
                return;
            }
            int at = openAt[open - 1];
            if (code.cell(at, Residue.KIND) == Residue.CALL) {
                out.endCall();
                base -= code.ofVariant(code.cell(at, Residue.OWNER), Residue.REGISTERS);
            }
            goOn(at, v);
        }

        private void goOn(int at, long v) {
            setRegister(base, code.cell(at, Residue.REGISTER), v);
            if (open >= 1) {
                openAt[open - 1] = code.cell(at, Residue.NEXT);
            }
        }

        private void step(int at) {
            int mark = code.cell(at, Residue.MARK);
            switch (code.cell(at, Residue.KIND)) {
                case Residue.RECKON:
                    goOn(at, Numbers.apply(mark, num(at, 0), num(at, 1)));
                    break;
                case Residue.CUT:
                    goOn(at, Numbers.turn('$', num(at, 0)));
                    break;
                case Residue.TO_FLOAT:
                    goOn(at, Numbers.turn('^', num(at, 0)));
                    break;
                case Residue.TO_BITS:
                    goOn(at, Numbers.turn('#', num(at, 0)));
                    break;
                case Residue.FIRST:
                    goOn(at, store.firstOf(operand(at, 0)));
                    break;
                case Residue.SECOND:
                    goOn(at, store.secondOf(operand(at, 0)));
                    break;
                case Residue.IF:
                    enter(code.cell(at, Numbers.isTrue(num(at, 0)) ? Residue.ONE : Residue.TWO));
                    break;
                case Residue.OUT:
                    out.writeOut(num(at, 0));
                    goOn(at, Numbers.ZERO);
                    break;
                case Residue.PUT:
                    goOn(at, out.put(mark, Numbers.stored(mark, num(at, 0))));
                    break;
                case Residue.GET:
                    goOn(at, out.get(mark));
                    break;
                case Residue.PAIR:
                    makePair(at);
                    break;
                case Residue.CALL:
                    call(at, mark);
                    break;
                default:
                    out.end = Outcome.NOT_TOLD;
                    break;
            }
        }

        private void makePair(int at) {
            long first = operand(at, 0);
            long second = operand(at, 1);
            if (store.isTooHeavy(first, second)) {
                out.end = Outcome.TOO_HEAVY;
            } else {
                goOn(at, store.pair(first, second));
            }
        }

        private void call(int at, int variant) {
            int caller = code.cell(at, Residue.OWNER);
            if (!out.beginCall()) {
                return;
            }
            int called = base + code.ofVariant(caller, Residue.REGISTERS);
            int n = code.cell(at, Residue.ARGUMENTS);
            for (int k = 0; k < n; k++) {
                setRegister(called, k, operand(at, Residue.AT_STARS + k));
            }
            base = called;
            enter(code.ofVariant(variant, Residue.BLOCK));
        }
    }

    /** TO SPECIALISE: WORKS the functions' steps on SYMBOLS. */
    private static final class Worker {
        private static final int MOST_UNROLL = 12;
        private static final int MOST_UNROLLED = 200;
        /** Of each of the calls that are UNROLLED, no more lie in one another than things may. */
        private static final int BRANCHES = 20 * (MOST_UNROLL + 1);
        private static final int BRANCH_COLUMNS = 3;
        private static final int OUTER = 0;
        private static final int ONE = 1;
        private static final int TWO = 2;

        private static final int TOO_MUCH_CODE = -2;
        private static final int TOO_MUCH_UNROLLED = -3;
        private static final int TOO_MANY_VARIANTS = -4;
        private static final int TOO_HEAVY = -5;
        private static final int NOT_TOLD = -6;

        int unroll;
        int variants;
        int budget;
        private final Store store;
        private final Residue left;
        private Program program;
        private int broken;
        private int variant;
        private int block;
        private int at;
        /** The ? that are under way: where ONE is NONE, it is known which way that one went. */
        private final int[] branches;
        private final long[] conditions;
        private int branchCount;
        private int openBlocks;
        private Pattern call;
        private Pattern spare;
        private final long[] leaves;
        private final long[] symbols;

        Worker(Store aStore, Residue aResidue, Program first) {
            unroll = 6;
            variants = 3;
            budget = 120;
            store = aStore;
            left = aResidue;
            program = first;
            branches = new int[BRANCHES * BRANCH_COLUMNS];
            conditions = new long[BRANCHES];
            call = new Pattern(Pattern.ARGUMENTS * Pattern.HEAVIEST);
            spare = new Pattern(Pattern.ARGUMENTS * Pattern.HEAVIEST);
            leaves = new long[Residue.MOST_STARS];
            symbols = new long[Residue.MOST_STARS];
            for (int k = 0; k < Residue.MOST_STARS; k++) {
                leaves[k] = Numbers.make(Numbers.REGISTER, k);
            }
        }

        boolean setLimit(int what, int v) {
            if (what == 0 && v >= 0 && v <= MOST_UNROLL) {
                unroll = v;
            } else if (what == 1 && v >= 1 && v <= 6) {
                variants = v;
            } else if (what == 2 && v >= 10 && v <= Residue.MOST_CODE) {
                budget = v;
            } else {
                return false;
            }
            return true;
        }

        void begin(Program aProgram, Pattern task) {
            program = aProgram;
            left.clear();
            broken = 0;
            at = NONE;
            if (program.startOf(task.key) == NONE) {
                broken = NOT_TOLD;
                return;
            }
            left.addVariant(task, NONE);
            beginVariant(0);
        }

        boolean isWorking() {
            return broken == 0 && variant < left.variants;
        }

        /** How many VARIANTS there are, or how it broke off; with it the RESIDUE stands or is gone. */
        int answer() {
            if (broken != 0) {
                left.clear();
                return broken;
            }
            left.there = true;
            return left.variants;
        }

        private void breakOff(int how) {
            if (broken == 0) {
                broken = how;
            }
        }

        private void beginVariant(int k) {
            variant = k;
            if (k >= left.variants) {
                return;
            }
            Pattern pattern = left.patternOf(k);
            block = left.addBlock();
            left.setVariant(k, Residue.BLOCK, block);
            store.clear();
            branchCount = 0;
            openBlocks = 0;
            int n = store.build(pattern, leaves, symbols);
            for (int slot = 0; slot < n; slot++) {
                store.setVar(slot, symbols[slot]);
            }
            at = program.startOf(pattern.key);
        }

        /** Out of an UNROLLED call, or out of the VARIANT and on to the next one. */
        private void goBack() {
            at = store.closeFrame();
            if (at == NONE) {
                left.endBlock(block, lift(store.pop(), 0));
                beginVariant(variant + 1);
            }
        }

        void step() {
            int what = program.stepAt(at);
            int mark = program.markAt(at);
            int bits = program.bitsAt(at);
            at++;
            switch (what) {
                case Program.NUMBER:
                    store.push(Numbers.make(mark, bits));
                    break;
                case Program.VAR:
                    store.push(store.varAt(mark));
                    break;
                case Program.SIGN:
                    reckon(mark);
                    break;
                case Program.TURN:
                    turn(mark);
                    break;
                case Program.PART:
                    takePart(mark);
                    break;
                case Program.PAIR:
                    makePair();
                    break;
                case Program.TEST:
                    test(mark);
                    break;
                case Program.THEN_END:
                    endThen(mark);
                    break;
                case Program.ELSE_END:
                    endElse();
                    break;
                case Program.OUT:
                    leave(Residue.OUT, 0, store.num(store.fromTop(0)), Numbers.ZERO);
                    break;
                case Program.PUT:
                    putAt(mark);
                    break;
                case Program.GET:
                    store.push(leave(Residue.GET, mark, Numbers.ZERO, Numbers.ZERO));
                    break;
                case Program.BIND:
                    store.setVar(mark, store.pop());
                    break;
                case Program.CALL:
                    if (!workCall(mark, bits)) {
                        shapeCall(mark, bits);
                        leaveCall(mark);
                    }
                    break;
                default:
                    goBack();
                    break;
            }
        }

        private void putAt(int place) {
            long num = store.popNum();
            long register = leave(Residue.PUT, place, num, Numbers.ZERO);
            store.push(Numbers.isKnown(num) ? Numbers.stored(place, num) : register);
        }

        /** Leaves an INSTRUCTION over: its REGISTER. */
        private long leave(int kind, int mark, long first, long second) {
            if (broken != 0) {
                return Numbers.ZERO;
            }
            int i = left.addInstruction(kind, mark, variant, block);
            if (i == NONE) {
                breakOff(TOO_MUCH_CODE);
                return Numbers.ZERO;
            }
            left.setOperand(i, 0, first);
            left.setOperand(i, 1, second);
            return Numbers.make(Numbers.REGISTER, left.cell(i, Residue.REGISTER));
        }

        private long lift(long symbol, int depth) {
            if (!store.isPair(symbol) || depth > Pattern.HEAVIEST || broken != 0) {
                return symbol;
            }
            long first = lift(store.firstOf(symbol), depth + 1);
            long second = lift(store.secondOf(symbol), depth + 1);
            return leave(Residue.PAIR, 0, first, second);
        }

        private void reckon(int sign) {
            long second = store.popNum();
            long first = store.popNum();
            if (Numbers.isKnown(first) && Numbers.isKnown(second)) {
                store.push(Numbers.apply(sign, first, second));
            } else {
                store.push(leave(Residue.RECKON, sign, first, second));
            }
        }

        private void turn(int sign) {
            long num = store.popNum();
            if (Numbers.isKnown(num)) {
                store.push(Numbers.turn(sign, num));
                return;
            }
            int kind = sign == '$' ? Residue.CUT : sign == '^' ? Residue.TO_FLOAT : Residue.TO_BITS;
            store.push(leave(kind, 0, num, Numbers.ZERO));
        }

        private void takePart(int sign) {
            long symbol = store.pop();
            boolean first = sign == '@';
            if (Numbers.kind(symbol) == Numbers.REGISTER) {
                store.push(leave(first ? Residue.FIRST : Residue.SECOND, 0, symbol, Numbers.ZERO));
            } else {
                store.push(first ? store.firstOf(symbol) : store.secondOf(symbol));
            }
        }

        private void makePair() {
            long second = store.pop();
            long first = store.pop();
            if (store.isTooHeavy(first, second)) {
                breakOff(TOO_HEAVY);
            } else {
                store.push(store.pair(first, second));
            }
        }

        private void test(int elseAt) {
            long num = store.popNum();
            if (Numbers.isKnown(num)) {
                openBranch(num, NONE);
                at = Numbers.isTrue(num) ? at : elseAt;
                return;
            }
            int one = left.addBlock();
            openBranch(num, one);
            openBlocks++;
            block = one;
        }

        private void openBranch(long condition, int one) {
            if (branchCount < BRANCHES) {
                conditions[branchCount] = condition;
                branchCount++;
                setBranch(OUTER, block);
                setBranch(ONE, one);
                setBranch(TWO, NONE);
            }
        }

        private int branch(int column) {
            return branchCount < 1 ? NONE : branches[(branchCount - 1) * BRANCH_COLUMNS + column];
        }

        private void setBranch(int column, int v) {
            if (branchCount >= 1) {
                branches[(branchCount - 1) * BRANCH_COLUMNS + column] = v;
            }
        }

        private void closeBranch() {
            branchCount = Math.max(0, branchCount - 1);
        }

        private void endThen(int behindElse) {
            if (branch(ONE) == NONE) {
                closeBranch();
                at = behindElse;
                return;
            }
            left.endBlock(block, lift(store.pop(), 0));
            block = left.addBlock();
            setBranch(TWO, block);
        }

        /** The INSTRUCTION comes behind those of both its BLOCKS, and so does its REGISTER. */
        private void endElse() {
            int one = branch(ONE);
            int two = branch(TWO);
            if (one == NONE || branchCount < 1) {
                closeBranch();
                return;
            }
            left.endBlock(block, lift(store.pop(), 0));
            block = branch(OUTER);
            long register = leave(Residue.IF, 0, conditions[branchCount - 1], Numbers.ZERO);
            closeBranch();
            openBlocks--;
            if (broken != 0) {
                return;
            }
            left.setCell(left.count - 1, Residue.ONE, one);
            left.setCell(left.count - 1, Residue.TWO, two);
            long end = left.endOf(one);
            store.push(Numbers.isKnown(end) && end == left.endOf(two) ? end : register);
        }

        /** Whether a call is WORKED on the spot; if not, it is to be left as a call of a VARIANT. */
        private boolean workCall(int key, int n) {
            int start = program.startOf(key);
            if (start == NONE) {
                store.drop(n);
                store.push(leave(Residue.UNTOLD, 0, Numbers.ZERO, Numbers.ZERO));
                return true;
            }
            if (openBlocks > 0 || store.depth >= unroll) {
                return false;
            }
            if (left.unrolled >= MOST_UNROLLED) {
                breakOff(TOO_MUCH_UNROLLED);
                return true;
            }
            left.unrolled++;
            store.openFrame(n, at);
            at = start;
            return true;
        }

        /** The call's PATTERN, less what has grown beside the VARIANTS that led to it. */
        private void shapeCall(int key, int n) {
            call.begin(key);
            for (int below = n - 1; below >= 0; below--) {
                store.flatten(store.fromTop(below), call);
            }
            store.drop(n);
            int k = variant;
            for (int ahead = 0; ahead < Residue.MOST_VARIANTS && k != NONE; ahead++) {
                Pattern there = left.patternOf(k);
                if (there.key == key) {
                    left.grown += call.growBeside(there, spare);
                    swapCalls();
                }
                k = left.ofVariant(k, Residue.PARENT);
            }
        }

        private void leaveCall(int key) {
            int called = left.find(call);
            if (called == NONE && isTooMuch(key)) {
                left.letGo++;
                call.letAllGo(spare);
                swapCalls();
                called = left.find(call);
            }
            if (called == NONE) {
                called = left.addVariant(call, variant);
            }
            if (called == NONE) {
                breakOff(TOO_MANY_VARIANTS);
                return;
            }
            leaveCallTo(called);
        }

        private boolean isTooMuch(int key) {
            return left.variantsOf(key) >= variants || left.count >= budget
                || call.stars() > Residue.MOST_STARS;
        }

        private void swapCalls() {
            Pattern before = call;
            call = spare;
            spare = before;
        }

        private void leaveCallTo(int called) {
            int n = 0;
            for (int i = 0; i < call.size && n < symbols.length; i++) {
                if (call.row[i] == Pattern.STAR_TOKEN) {
                    symbols[n] = lift(call.standing[i], 0);
                    n++;
                }
            }
            long register = leave(Residue.CALL, called, Numbers.ZERO, Numbers.ZERO);
            if (broken != 0) {
                return;
            }
            int i = left.count - 1;
            left.setCell(i, Residue.ARGUMENTS, n);
            for (int k = 0; k < n; k++) {
                left.setOperand(i, Residue.AT_STARS + k, symbols[k]);
            }
            left.setVariant(called, Residue.CALLED, left.ofVariant(called, Residue.CALLED) + 1);
            store.push(register);
        }
    }

    /** What is written: a VALUE, or THE TEXT of a VARIANT. */
    private static final class Text {
        /** 300 calls left with eight numbers each take less. */
        private static final int ROOM = 40000;
        private static final int DEEPEST = 45;
        /** By kind, of those that are a sign and one operand. */
        private static final String SIGNS = " $^#@~ !";

        private final byte[] bytes;
        private int size;

        Text() {
            bytes = new byte[ROOM];
            size = 0;
        }

        int byteAt(int k) {
            return k >= 0 && k < size ? bytes[k] : NONE;
        }

        int writeValue(Pattern v) {
            size = 0;
            addPart(v, 0, 0);
            return size;
        }

        int writeVariant(Residue code, int k) {
            size = 0;
            addPatterns(code.patternOf(k));
            add('=');
            addBlock(code, code.ofVariant(k, Residue.BLOCK), 0);
            add(';');
            return size;
        }

        private void add(int sign) {
            if (size < ROOM) {
                bytes[size] = (byte) sign;
                size++;
            }
        }

        private void addInt(int v) {
            long rest = v;
            if (rest < 0) {
                add('-');
                rest = -rest;
            }
            long unit = 1;
            for (int k = 0; k < 10 && unit * 10 <= rest; k++) {
                unit *= 10;
            }
            for (int k = 0; k <= 10 && unit > 0; k++) {
                add('0' + (int) (rest / unit % 10));
                unit /= 10;
            }
        }

        private void addSymbol(long symbol) {
            int kind = Numbers.kind(symbol);
            if (kind == Numbers.STAR) {
                add('*');
                return;
            }
            if (kind == Numbers.FLOAT) {
                add('f');
            } else if (kind == Numbers.REGISTER) {
                add('r');
            }
            addInt(Numbers.bits(symbol));
        }

        private void addPatterns(Pattern call) {
            add('a' + call.key / 6);
            add('(');
            int i = 0;
            while (i < call.size) {
                if (i > 0) {
                    add(',');
                }
                i = Math.max(addPart(call, i, 0), i + 1);
            }
            add(')');
        }

        /** Adds the part that begins at a place: the place behind it. */
        private int addPart(Pattern row, int i, int depth) {
            if (i < 0 || i >= row.size || depth > DEEPEST) {
                return i;
            }
            if (row.row[i] != Pattern.PAIR_TOKEN) {
                addSymbol(row.row[i]);
                return i + 1;
            }
            add('[');
            int second = addPart(row, i + 1, depth + 1);
            add(',');
            int behind = addPart(row, second, depth + 1);
            add(']');
            return behind;
        }

        private void addBlock(Residue code, int block, int depth) {
            int i = code.firstOf(block);
            for (int n = 0; n < Residue.MOST_CODE && i != NONE && depth < DEEPEST; n++) {
                addInstruction(code, i, depth);
                add(';');
                i = code.cell(i, Residue.NEXT);
            }
            addSymbol(code.endOf(block));
        }

        private void addInstruction(Residue code, int i, int depth) {
            int kind = code.cell(i, Residue.KIND);
            if (kind != Residue.OUT) {
                addSymbol(Numbers.make(Numbers.REGISTER, code.cell(i, Residue.REGISTER)));
                add('=');
            }
            switch (kind) {
                case Residue.RECKON:
                    addTwo(code, i, '(', code.cell(i, Residue.MARK), ')');
                    break;
                case Residue.IF:
                    addChoice(code, i, depth);
                    break;
                case Residue.PUT:
                    add('&');
                    addInt(code.cell(i, Residue.MARK));
                    addSymbol(code.operand(i, 0));
                    break;
                case Residue.GET:
                    add('_');
                    addInt(code.cell(i, Residue.MARK));
                    break;
                case Residue.PAIR:
                    addTwo(code, i, '[', ',', ']');
                    break;
                case Residue.CALL:
                    addCall(code, i);
                    break;
                case Residue.UNTOLD:
                    add('-');
                    break;
                default:
                    add(kind >= 0 && kind < SIGNS.length() ? SIGNS.charAt(kind) : ' ');
                    addSymbol(code.operand(i, 0));
                    break;
            }
        }

        private void addTwo(Residue code, int i, int open, int between, int close) {
            add(open);
            addSymbol(code.operand(i, 0));
            add(between);
            addSymbol(code.operand(i, 1));
            add(close);
        }

        private void addChoice(Residue code, int i, int depth) {
            add('?');
            addSymbol(code.operand(i, 0));
            add('{');
            addBlock(code, code.cell(i, Residue.ONE), depth + 1);
            add('}');
            add('{');
            addBlock(code, code.cell(i, Residue.TWO), depth + 1);
            add('}');
        }

        private void addCall(Residue code, int i) {
            add('c');
            addInt(code.cell(i, Residue.MARK));
            add('(');
            int n = code.cell(i, Residue.ARGUMENTS);
            for (int k = 0; k < n; k++) {
                if (k > 0) {
                    add(',');
                }
                addSymbol(code.operand(i, Residue.AT_STARS + k));
            }
            add(')');
        }
    }
}
