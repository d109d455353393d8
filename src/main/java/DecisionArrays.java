/** Decisions in arrays of nine kinds, up to four deep, with rules that judge them; see README.md. */
public final class DecisionArrays {
    private static final int MOST_ARRAYS = 60;
    private static final int MOST_LENGTH = 200;
    private static final int MOST_ELEMENTS = 4000;
    private static final int MOST_DEPTH = 4;
    private static final int MOST_DECISIONS = 24;
    private static final int MOST_CANDIDATES = 16;
    private static final int MOST_RULES = 12;
    private static final int MOST_MARKS = 8;
    private static final int MOST_WAYS = 5000;
    private static final int MOST_WEIGHT = 1000;
    private static final long MOST_AMOUNT = 1000000L;

    private static final int CHAR = 1;
    private static final int BYTE = 2;
    private static final int SHORT = 3;
    private static final int INT = 4;
    private static final int LONG = 5;
    private static final int FLOAT = 6;
    private static final int DOUBLE = 7;
    private static final int THINGS = 8;
    private static final int CLASSES = 7;
    private static final int NO_CLASS = -1;
    private static final int NULL_ROW = -1;

    private static final int NOT_ALIKE = 1;
    private static final int NO_INDEX = 2;
    private static final int ROW_IS_NULL = 3;
    private static final int BELOW_ZERO = 4;
    private static final int NO_ARRAY = 5;
    private static final int IS_PINNED = 6;
    private static final int OTHER_CLASS = 7;
    private static final int BOUND_PASSED = 8;
    private static final int NOT_TOLD = 9;

    private static final int NONE = -2;
    private static final int NOT_FOUND = -100;

    /** A place is told as its array times this, and where it lies in it. */
    private static final int PER_ARRAY = 1000;

    private static final int SUM = 0;
    private static final int UNLIKE = 1;
    private static final int RISING = 2;
    private static final int COUNT = 3;
    private static final int CHANGES = 4;
    private static final int FAR = 5;

    private final Store store;
    private final Maker maker;
    private final Likeness likeness;
    private final Choices choices;
    private final Rules rules;
    private final Mark[] marks;
    private int marked;
    private int latest;

    public DecisionArrays() {
        store = new Store();
        maker = new Maker(store);
        likeness = new Likeness(store);
        choices = new Choices(store);
        rules = new Rules(store);
        marks = new Mark[MOST_MARKS];
        marked = 0;
        latest = 0;
    }

    // ---- arrays

    public int array(int kind, int n) {
        if (!Kinds.isKind(kind)) {
            return fail(NOT_TOLD);
        }
        return newArray(kind, 1, NO_CLASS, n);
    }

    public int things(int cls, int n) {
        if (cls < 0 || cls >= CLASSES) {
            return fail(NOT_TOLD);
        }
        return newArray(THINGS, 1, cls, n);
    }

    public int rows(int a, int n) {
        if (!store.has(a)) {
            return fail(NO_ARRAY);
        }
        if (store.depth[a] >= MOST_DEPTH) {
            return fail(NOT_TOLD);
        }
        return newArray(store.kind[a], store.depth[a] + 1, store.cls[a], n);
    }

    public int grid(int kind, int depth, int n0, int n1, int n2, int n3) {
        if (kind < 0 || kind >= THINGS || depth < 1 || depth > MOST_DEPTH) {
            return fail(NOT_TOLD);
        }
        maker.tellLengths(n0, n1, n2, n3);
        if (maker.hasLengthBelowZero(depth)) {
            return fail(BELOW_ZERO);
        }
        if (!maker.gridFits(depth)) {
            return fail(BOUND_PASSED);
        }
        return fine(maker.makeGrid(kind, depth));
    }

    public int about(int a, int what) {
        if (!store.has(a)) {
            return fail(NO_ARRAY);
        }
        switch (what) {
            case 0:
                return fine(store.kind[a]);
            case 1:
                return fine(store.depth[a]);
            case 2:
                return fine(store.length[a]);
            case 3:
                return fine(store.cls[a]);
            case 4:
                return fine(store.nullRows(a));
            case 5:
                return fine(store.pinnedIn(a, 0, store.length[a]));
            default:
                return fail(NOT_TOLD);
        }
    }

    public int row(int a, int i) {
        latest = rowCode(a, i);
        if (latest != 0) {
            return NULL_ROW;
        }
        return (int) store.bits[store.start[a] + i];
    }

    public int setRow(int a, int i, int r) {
        if (!store.has(a) || (r != NULL_ROW && !store.has(r))) {
            return fail(NO_ARRAY);
        }
        if (!store.hasPlace(a, i)) {
            return fail(NO_INDEX);
        }
        if (store.depth[a] == 1 || (r != NULL_ROW && !store.isRowFor(a, r))) {
            return fail(NOT_ALIKE);
        }
        store.bits[store.start[a] + i] = r;
        return fine(0);
    }

    // ---- elements

    public long read(int a, int i, int j, int k, int l, int reader) {
        if (!store.has(a)) {
            return noBits(NO_ARRAY);
        }
        if (!Kinds.isKind(reader)) {
            return noBits(NOT_TOLD);
        }
        int where = store.walk(a, i, j, k, l);
        if (where < 0) {
            return noBits(-where);
        }
        int kind = store.kind[a];
        if (!Kinds.reaches(kind, reader)) {
            return noBits(NOT_ALIKE);
        }
        latest = 0;
        return Kinds.widened(kind, reader, store.bits[store.slotOf(where)]);
    }

    public int write(int a, int i, int j, int k, int l, int writer, long bits) {
        if (!store.has(a)) {
            return fail(NO_ARRAY);
        }
        if (!Kinds.holds(writer, bits)) {
            return fail(NOT_TOLD);
        }
        int where = store.walk(a, i, j, k, l);
        if (where < 0) {
            return fail(-where);
        }
        int kind = store.kind[a];
        if (!Kinds.reaches(writer, kind)) {
            return fail(NOT_ALIKE);
        }
        int slot = store.slotOf(where);
        if (store.pinned[slot]) {
            return fail(IS_PINNED);
        }
        long value = Kinds.widened(writer, kind, Kinds.cleaned(writer, bits));
        if (!store.takes(a, value)) {
            return fail(OTHER_CLASS);
        }
        store.bits[slot] = value;
        return fine(0);
    }

    public int place(int a, int i, int j, int k, int l) {
        if (!store.has(a)) {
            return fail(NO_ARRAY);
        }
        int where = store.walk(a, i, j, k, l);
        return where < 0 ? fail(-where) : fine(where);
    }

    public int pin(int a, int i, int j, int k, int l, boolean on) {
        if (!store.has(a)) {
            return fail(NO_ARRAY);
        }
        int where = store.walk(a, i, j, k, l);
        if (where < 0) {
            return fail(-where);
        }
        int slot = store.slotOf(where);
        int was = store.pinned[slot] ? 1 : 0;
        store.pinned[slot] = on;
        return fine(was);
    }

    public int column(int kind, int n) {
        if (!Kinds.isKind(kind) || n < 0) {
            return fail(NOT_TOLD);
        }
        int left = n;
        for (int a = 0; a < store.arrays; a++) {
            if (store.depth[a] == 1 && store.kind[a] == kind) {
                if (left < store.length[a]) {
                    return fine(a * PER_ARRAY + left);
                }
                left -= store.length[a];
            }
        }
        return fine(NONE);
    }

    public int code() {
        return latest;
    }

    public int widens(int from, int to) {
        if (!Kinds.isKind(from) || !Kinds.isKind(to)) {
            return fail(NOT_TOLD);
        }
        return fine(Kinds.reaches(from, to) ? 1 : 0);
    }

    // ---- whole arrays

    public int fill(int a, int from, int to, int writer, long bits) {
        if (!store.has(a)) {
            return fail(NO_ARRAY);
        }
        if (!Kinds.holds(writer, bits)) {
            return fail(NOT_TOLD);
        }
        int kind = store.kind[a];
        if (store.depth[a] != 1 || !Kinds.reaches(writer, kind)) {
            return fail(NOT_ALIKE);
        }
        if (!store.hasRange(a, from, to)) {
            return fail(NO_INDEX);
        }
        if (store.pinnedIn(a, from, to) > 0) {
            return fail(IS_PINNED);
        }
        long value = Kinds.widened(writer, kind, Kinds.cleaned(writer, bits));
        if (!store.takes(a, value)) {
            return fail(OTHER_CLASS);
        }
        int first = store.start[a];
        for (int i = from; i < to; i++) {
            store.bits[first + i] = value;
        }
        return fine(to - from);
    }

    public int move(int a, int i, int b, int k, int n) {
        if (!store.has(a) || !store.has(b)) {
            return fail(NO_ARRAY);
        }
        if (!store.canMove(a, b)) {
            return fail(NOT_ALIKE);
        }
        if (n < 0) {
            return fail(BELOW_ZERO);
        }
        if (!store.hasMany(a, i, n) || !store.hasMany(b, k, n)) {
            return fail(NO_INDEX);
        }
        if (store.pinnedIn(b, k, k + n) > 0) {
            return fail(IS_PINNED);
        }
        int taken = store.takenOf(a, i, b, n);
        System.arraycopy(store.bits, store.start[a] + i, store.bits, store.start[b] + k, taken);
        return taken < n ? fail(OTHER_CLASS) : fine(n);
    }

    public int copy(int a, int m) {
        if (!store.has(a)) {
            return fail(NO_ARRAY);
        }
        int made = newArray(store.kind[a], store.depth[a], store.cls[a], m);
        if (made >= 0) {
            int n = Math.min(m, store.length[a]);
            System.arraycopy(store.bits, store.start[a], store.bits, store.start[made], n);
        }
        return made;
    }

    public int deep(int a) {
        if (!store.has(a)) {
            return fail(NO_ARRAY);
        }
        if (!maker.twinFits(a)) {
            return fail(BOUND_PASSED);
        }
        return fine(maker.makeTwin(a));
    }

    public int sort(int a, int from, int to) {
        if (!store.has(a)) {
            return fail(NO_ARRAY);
        }
        if (store.depth[a] != 1) {
            return fail(NOT_ALIKE);
        }
        if (!store.hasRange(a, from, to)) {
            return fail(NO_INDEX);
        }
        if (store.pinnedIn(a, from, to) > 0) {
            return fail(IS_PINNED);
        }
        return fine(store.putInOrder(a, from, to));
    }

    public int search(int a, long bits) {
        if (!store.has(a)) {
            return fail(NO_ARRAY);
        }
        int kind = store.kind[a];
        if (!Kinds.holds(kind, bits)) {
            return fail(NOT_TOLD);
        }
        if (store.depth[a] != 1) {
            return fail(NOT_ALIKE);
        }
        return fine(store.halve(a, Kinds.cleaned(kind, bits)));
    }

    public int same(int a, int b) {
        if (!store.has(a) || !store.has(b)) {
            return fail(NO_ARRAY);
        }
        return fine(likeness.agree(a, b) ? 1 : 0);
    }

    public int hash(int a) {
        if (!store.has(a)) {
            latest = NO_ARRAY;
            return 0;
        }
        latest = 0;
        return likeness.digest(a);
    }

    // ---- decisions

    public int decide(int a, int i, int j, int k, int l) {
        if (!store.has(a)) {
            return fail(NO_ARRAY);
        }
        int where = store.walk(a, i, j, k, l);
        if (where < 0) {
            return fail(-where);
        }
        int known = choices.at(where);
        if (known >= 0) {
            return fine(known);
        }
        if (choices.made >= MOST_DECISIONS) {
            return fail(BOUND_PASSED);
        }
        return fine(choices.add(where));
    }

    public int candidate(int d, long bits) {
        if (!choices.has(d)) {
            return fail(NOT_TOLD);
        }
        int kind = choices.kindOf(d);
        // Cleaned first: any no-number then is the one that is refused.
        long value = Kinds.cleaned(kind, bits);
        if (!Kinds.holds(kind, bits) || Kinds.isNoNumber(kind, value) || choices.indexOf(d, value) >= 0) {
            return fail(NOT_TOLD);
        }
        if (!store.takes(choices.arrayOf(d), value)) {
            return fail(OTHER_CLASS);
        }
        if (choices.counts[d] >= MOST_CANDIDATES) {
            return fail(BOUND_PASSED);
        }
        choices.append(d, value);
        return fine(choices.counts[d]);
    }

    public int span(int d, long low, long high, long step) {
        if (!choices.has(d) || step < 1) {
            return fail(NOT_TOLD);
        }
        int kind = choices.kindOf(d);
        if (kind < CHAR || kind > LONG || !Kinds.holds(kind, low) || !Kinds.holds(kind, high)) {
            return fail(NOT_TOLD);
        }
        int before = choices.counts[d];
        if (!choices.appendSpan(d, low, high, step)) {
            choices.counts[d] = before;
            return fail(BOUND_PASSED);
        }
        return fine(choices.counts[d]);
    }

    public int choose(int d, int c) {
        if (!choices.hasCandidate(d, c)) {
            return fail(NOT_TOLD);
        }
        if (store.pinned[choices.slots[d]]) {
            return fail(IS_PINNED);
        }
        store.bits[choices.slots[d]] = choices.candidateAt(d, c);
        return fine(0);
    }

    public int decision(int d, int what) {
        if (!choices.has(d)) {
            return fail(NOT_TOLD);
        }
        switch (what) {
            case 0:
                return fine(choices.arrayOf(d));
            case 1:
                return fine(choices.places[d] % PER_ARRAY);
            case 2:
                return fine(choices.counts[d]);
            case 3:
                return fine(choices.indexOf(d, store.bits[choices.slots[d]]));
            default:
                return fail(NOT_TOLD);
        }
    }

    public long candidateOf(int d, int c) {
        if (!choices.hasCandidate(d, c)) {
            return noBits(NOT_TOLD);
        }
        latest = 0;
        return choices.candidateAt(d, c);
    }

    // ---- rules

    public int rule(int sort, int a, int weight, long low, long high) {
        if (!store.has(a)) {
            return fail(NO_ARRAY);
        }
        if (sort < SUM || sort > FAR || weight < -MOST_WEIGHT || weight > MOST_WEIGHT) {
            return fail(NOT_TOLD);
        }
        int kind = store.kind[a];
        if (sort == COUNT && !Kinds.holds(kind, low)) {
            return fail(NOT_TOLD);
        }
        if (store.depth[a] != 1) {
            return fail(NOT_ALIKE);
        }
        if (rules.made >= MOST_RULES) {
            return fail(BOUND_PASSED);
        }
        long first = sort == COUNT ? Kinds.cleaned(kind, low) : low;
        return fine(rules.add(sort, a, weight, first, high));
    }

    public long amount(int r) {
        if (r < 0 || r >= rules.made) {
            return noBits(NOT_TOLD);
        }
        latest = 0;
        rules.measure(r);
        return rules.amountOf(r);
    }

    public long score() {
        rules.measureAll();
        return rules.total();
    }

    public int best() {
        int ways = choices.ways();
        if (ways > MOST_WAYS) {
            return fail(BOUND_PASSED);
        }
        choices.takeWay(0);
        rules.measureAll();
        long least = rules.total();
        int found = 0;
        for (int way = 1; way < ways; way++) {
            choices.takeNext(rules);
            long score = rules.total();
            if (score < least) {
                least = score;
                found = way;
            }
        }
        choices.takeWay(found);
        return fine(ways);
    }

    // ---- marks

    public int mark() {
        if (marked >= MOST_MARKS) {
            return fail(BOUND_PASSED);
        }
        // Kept when its MARK goes, so that marking again and again makes no new rows.
        if (marks[marked] == null) {
            marks[marked] = new Mark();
        }
        marks[marked].keep(store);
        marked++;
        return fine(marked);
    }

    public int back() {
        if (marked < 1) {
            return fail(NOT_TOLD);
        }
        marked--;
        if (marks[marked] != null) {
            marks[marked].bringBack(store);
        }
        return fine(marked);
    }

    public int count(int what) {
        switch (what) {
            case 0:
                return fine(store.arrays);
            case 1:
                return fine(store.used);
            case 2:
                return fine(choices.made);
            case 3:
                return fine(rules.made);
            case 4:
                return fine(marked);
            case 5:
                return fine(choices.ways());
            default:
                return fail(NOT_TOLD);
        }
    }

    private int fail(int code) {
        latest = code;
        return -code;
    }

    private long noBits(int code) {
        latest = code;
        return 0L;
    }

    private int fine(int answer) {
        latest = 0;
        return answer;
    }

    private int newArray(int kind, int depth, int cls, int n) {
        if (n < 0) {
            return fail(BELOW_ZERO);
        }
        if (n > MOST_LENGTH || !store.fits(1, n)) {
            return fail(BOUND_PASSED);
        }
        return fine(store.add(kind, depth, cls, n));
    }

    private int rowCode(int a, int i) {
        if (!store.has(a)) {
            return NO_ARRAY;
        }
        if (store.depth[a] == 1) {
            return NOT_ALIKE;
        }
        return store.hasPlace(a, i) ? 0 : NO_INDEX;
    }

    /** What BITS of each kind mean; floats and doubles are worked out in whole numbers throughout. */
    private static final class Kinds {
        private static final long[] LOWEST = {
            0L, 0L, -128L, -32768L, -2147483648L, -9223372036854775808L,
            -2147483648L, -9223372036854775808L, 0L
        };
        private static final long[] HIGHEST = {
            1L, 65535L, 127L, 32767L, 2147483647L, 9223372036854775807L,
            2147483647L, 9223372036854775807L, 1000L
        };
        private static final int FLOAT_WIDTH = 23;
        private static final int FLOAT_BIAS = 127;
        private static final int FLOAT_TOP = 255;
        private static final long FLOAT_PART = 0x7FFFFFL;
        private static final long FLOAT_ENDLESS = 0x7F800000L;
        private static final long FLOAT_NO_NUMBER = 0x7FC00000L;
        private static final long FLOAT_SIGN = -2147483648L;
        private static final long FLOAT_REST = 0x7FFFFFFFL;
        private static final int DOUBLE_WIDTH = 52;
        private static final int DOUBLE_BIAS = 1023;
        private static final int DOUBLE_TOP = 2047;
        private static final long DOUBLE_PART = 0xFFFFFFFFFFFFFL;
        private static final long DOUBLE_ENDLESS = 0x7FF0000000000000L;
        private static final long DOUBLE_NO_NUMBER = 0x7FF8000000000000L;
        private static final long DOUBLE_SIGN = -9223372036854775808L;
        private static final long DOUBLE_REST = 9223372036854775807L;
        /** A float's lowest bit stands for two to this power less, where it has no leading one. */
        private static final int FLOAT_LEAST = 149;

        static boolean isKind(int kind) {
            return kind >= 0 && kind <= THINGS;
        }

        static boolean holds(int kind, long bits) {
            return isKind(kind) && bits >= LOWEST[kind] && bits <= HIGHEST[kind];
        }

        static boolean isNoNumber(int kind, long bits) {
            if (kind == FLOAT) {
                return (bits & FLOAT_REST) > FLOAT_ENDLESS;
            }
            return kind == DOUBLE && (bits & DOUBLE_REST) > DOUBLE_ENDLESS;
        }

        static long cleaned(int kind, long bits) {
            if (!isNoNumber(kind, bits)) {
                return bits;
            }
            return kind == FLOAT ? FLOAT_NO_NUMBER : DOUBLE_NO_NUMBER;
        }

        static boolean reaches(int from, int to) {
            if (from == to || (from == BYTE && to == SHORT)) {
                return true;
            }
            return from >= CHAR && from < to && to >= INT && to <= DOUBLE;
        }

        /** Only for kinds that widen, and cleaned BITS. */
        static long widened(int from, int to, long bits) {
            if (from == to || to <= LONG) {
                return bits;
            }
            if (from == FLOAT) {
                return doubleOfFloat(bits);
            }
            if (to == FLOAT) {
                long size = nearest(bits, FLOAT_WIDTH, FLOAT_BIAS);
                return bits < 0 ? size | FLOAT_SIGN : size;
            }
            long size = nearest(bits, DOUBLE_WIDTH, DOUBLE_BIAS);
            return bits < 0 ? size | DOUBLE_SIGN : size;
        }

        /** BITS, but for the sign, of the float or double nearest to a whole. */
        private static long nearest(long whole, int width, int bias) {
            if (whole == 0) {
                return 0L;
            }
            // The size of the least long stays negative here: it is read without a sign below.
            long size = whole < 0 ? -whole : whole;
            int top = topBit(size);
            long part;
            if (top <= width) {
                part = size << (width - top);
            } else {
                int cut = top - width;
                part = size >>> cut;
                long rest = size & ((1L << cut) - 1);
                long half = 1L << (cut - 1);
                if (rest > half || (rest == half && (part & 1L) == 1L)) {
                    part++;
                }
            }
            // Added, not joined: a part that was rounded up to the next power carries over.
            return ((long) (top + bias) << width) + (part - (1L << width));
        }

        private static long doubleOfFloat(long bits) {
            long sign = bits < 0 ? DOUBLE_SIGN : 0L;
            int power = (int) ((bits >>> FLOAT_WIDTH) & FLOAT_TOP);
            long part = bits & FLOAT_PART;
            if (power == FLOAT_TOP) {
                return part != 0 ? DOUBLE_NO_NUMBER : sign | DOUBLE_ENDLESS;
            }
            if (power > 0) {
                long lifted = (long) (power - FLOAT_BIAS + DOUBLE_BIAS) << DOUBLE_WIDTH;
                return sign | lifted | (part << (DOUBLE_WIDTH - FLOAT_WIDTH));
            }
            if (part == 0) {
                return sign;
            }
            int top = topBit(part);
            long lifted = (long) (top - FLOAT_LEAST + DOUBLE_BIAS) << DOUBLE_WIDTH;
            return sign | lifted | ((part << (DOUBLE_WIDTH - top)) & DOUBLE_PART);
        }

        private static int topBit(long size) {
            for (int bit = 63; bit > 0; bit--) {
                if (((size >>> bit) & 1L) == 1L) {
                    return bit;
                }
            }
            return 0;
        }

        /** A long whose order is that of the values. */
        static long rank(int kind, long bits) {
            if (bits >= 0 || kind < FLOAT || kind > DOUBLE) {
                return bits;
            }
            return kind == FLOAT ? bits ^ FLOAT_REST : bits ^ DOUBLE_REST;
        }

        /** THE NUMBER as in sums. */
        static long number(int kind, long bits) {
            if (kind == FLOAT) {
                int power = (int) ((bits >>> FLOAT_WIDTH) & FLOAT_TOP) - FLOAT_BIAS;
                long part = (bits & FLOAT_PART) | (1L << FLOAT_WIDTH);
                return bits == FLOAT_NO_NUMBER ? 0L : towardsZero(bits < 0, power, part, FLOAT_WIDTH);
            }
            if (kind == DOUBLE) {
                int power = (int) ((bits >>> DOUBLE_WIDTH) & DOUBLE_TOP) - DOUBLE_BIAS;
                long part = (bits & DOUBLE_PART) | (1L << DOUBLE_WIDTH);
                return bits == DOUBLE_NO_NUMBER ? 0L : towardsZero(bits < 0, power, part, DOUBLE_WIDTH);
            }
            return bits;
        }

        private static long towardsZero(boolean below, int power, long part, int width) {
            if (power < 0) {
                return 0L;
            }
            if (power >= 63) {
                return below ? DOUBLE_SIGN : DOUBLE_REST;
            }
            long size = power >= width ? part << (power - width) : part >>> (width - power);
            return below ? -size : size;
        }

        /** Whether two values are the same, floats and doubles by ==. */
        static boolean alike(int kind, long x, long y) {
            if (kind == FLOAT) {
                return x == y ? x != FLOAT_NO_NUMBER : ((x | y) & FLOAT_REST) == 0;
            }
            if (kind == DOUBLE) {
                return x == y ? x != DOUBLE_NO_NUMBER : ((x | y) & DOUBLE_REST) == 0;
            }
            return x == y;
        }

        static int hashOf(int kind, long bits) {
            if (kind == 0) {
                return bits == 1 ? 1231 : 1237;
            }
            if (kind == LONG || kind == DOUBLE) {
                return (int) (bits ^ (bits >>> 32));
            }
            return (int) bits;
        }
    }

    /** All arrays; their elements lie one array behind the other in rows made once. */
    private static final class Store {
        int arrays;
        int used;
        final int[] kind = new int[MOST_ARRAYS];
        final int[] depth = new int[MOST_ARRAYS];
        final int[] cls = new int[MOST_ARRAYS];
        final int[] start = new int[MOST_ARRAYS];
        final int[] length = new int[MOST_ARRAYS];
        final long[] bits = new long[MOST_ELEMENTS];
        final boolean[] pinned = new boolean[MOST_ELEMENTS];
        private final long[] before = new long[MOST_LENGTH];

        boolean has(int a) {
            return a >= 0 && a < arrays;
        }

        boolean fits(long moreArrays, long moreElements) {
            return arrays + moreArrays <= MOST_ARRAYS && used + moreElements <= MOST_ELEMENTS;
        }

        /** Only behind fits(). */
        int add(int newKind, int newDepth, int newClass, int n) {
            int a = arrays;
            kind[a] = newKind;
            depth[a] = newDepth;
            cls[a] = newClass;
            start[a] = used;
            length[a] = n;
            if (newDepth > 1) {
                for (int i = 0; i < n; i++) {
                    bits[used + i] = NULL_ROW;
                }
            }
            arrays++;
            used += n;
            return a;
        }

        boolean hasPlace(int a, int i) {
            return i >= 0 && i < length[a];
        }

        boolean hasRange(int a, int from, int to) {
            return from >= 0 && from <= to && to <= length[a];
        }

        boolean hasMany(int a, int i, int n) {
            return i >= 0 && i <= length[a] && n <= length[a] - i;
        }

        /** The array of DEPTH 1 times 1000 and the place in it; a code below 0. */
        int walk(int a, int i, int j, int k, int l) {
            int at = a;
            for (int step = 0; step < MOST_DEPTH; step++) {
                int index = step == 0 ? i : step == 1 ? j : step == 2 ? k : l;
                if (!hasPlace(at, index)) {
                    return -NO_INDEX;
                }
                if (depth[at] == 1) {
                    return at * PER_ARRAY + index;
                }
                int next = (int) bits[start[at] + index];
                if (!has(next)) {
                    return -ROW_IS_NULL;
                }
                at = next;
            }
            return -NO_INDEX;
        }

        int slotOf(int where) {
            return start[where / PER_ARRAY] + where % PER_ARRAY;
        }

        boolean takes(int a, long thing) {
            return cls[a] == NO_CLASS || thing == 0 || thing % CLASSES == cls[a];
        }

        boolean isRowFor(int a, int r) {
            return kind[a] == kind[r] && cls[a] == cls[r] && depth[a] == depth[r] + 1;
        }

        boolean canMove(int a, int b) {
            if (kind[a] != kind[b] || depth[a] != depth[b]) {
                return false;
            }
            return depth[a] == 1 || cls[a] == cls[b];
        }

        /** How many of n elements come to array b ahead of the first one that it does not take. */
        int takenOf(int a, int i, int b, int n) {
            if (depth[b] > 1) {
                return n;
            }
            for (int q = 0; q < n; q++) {
                if (!takes(b, bits[start[a] + i + q])) {
                    return q;
                }
            }
            return n;
        }

        int nullRows(int a) {
            int found = 0;
            for (int i = 0; depth[a] > 1 && i < length[a]; i++) {
                if (bits[start[a] + i] == NULL_ROW) {
                    found++;
                }
            }
            return found;
        }

        int pinnedIn(int a, int from, int to) {
            int found = 0;
            for (int i = from; i < to; i++) {
                if (pinned[start[a] + i]) {
                    found++;
                }
            }
            return found;
        }

        /** How many places have other BITS than before. */
        int putInOrder(int a, int from, int to) {
            int first = start[a] + from;
            int n = to - from;
            System.arraycopy(bits, first, before, 0, n);
            for (int q = 1; q < n; q++) {
                insert(kind[a], first, first + q);
            }
            int changed = 0;
            for (int q = 0; q < n; q++) {
                if (bits[first + q] != before[q]) {
                    changed++;
                }
            }
            return changed;
        }

        /** Brings the element at a slot among those from first on, which are in order. */
        private void insert(int ofKind, int first, int slot) {
            long value = bits[slot];
            long rank = Kinds.rank(ofKind, value);
            int low = first;
            int high = slot;
            while (low < high) {
                int middle = (low + high) / 2;
                if (Kinds.rank(ofKind, bits[middle]) <= rank) {
                    low = middle + 1;
                } else {
                    high = middle;
                }
            }
            System.arraycopy(bits, low, bits, low + 1, slot - low);
            bits[low] = value;
        }

        int halve(int a, long value) {
            long rank = Kinds.rank(kind[a], value);
            int low = 0;
            int high = length[a] - 1;
            while (low <= high) {
                int middle = (low + high) / 2;
                long there = Kinds.rank(kind[a], bits[start[a] + middle]);
                if (there == rank) {
                    return middle;
                }
                if (there < rank) {
                    low = middle + 1;
                } else {
                    high = middle - 1;
                }
            }
            return NOT_FOUND - low;
        }
    }

    /** Makes arrays together with all their ROWS, once it is known that they fit. */
    private static final class Maker {
        private final Store store;
        private final int[] lengths = new int[MOST_DEPTH];
        private int planArrays;
        private int planElements;

        Maker(Store store) {
            this.store = store;
        }

        void tellLengths(int n0, int n1, int n2, int n3) {
            lengths[0] = n0;
            lengths[1] = n1;
            lengths[2] = n2;
            lengths[3] = n3;
        }

        boolean hasLengthBelowZero(int depth) {
            for (int step = 0; step < depth && step < MOST_DEPTH; step++) {
                if (lengths[step] < 0) {
                    return true;
                }
            }
            return false;
        }

        boolean gridFits(int depth) {
            long arrays = 0;
            long elements = 0;
            long layer = 1;
            for (int step = 0; step < depth && step < MOST_DEPTH; step++) {
                if (lengths[step] > MOST_LENGTH) {
                    return false;
                }
                arrays += layer;
                layer *= lengths[step];
                elements += layer;
            }
            return store.fits(arrays, elements);
        }

        /** Only behind gridFits(). */
        int makeGrid(int kind, int depth) {
            return gridAt(kind, depth, 0);
        }

        private int gridAt(int kind, int depth, int step) {
            if (step >= MOST_DEPTH || !store.fits(1, lengths[step])) {
                return NULL_ROW;
            }
            int made = store.add(kind, depth - step, NO_CLASS, lengths[step]);
            if (step + 1 < depth) {
                for (int i = 0; i < lengths[step]; i++) {
                    store.bits[store.start[made] + i] = gridAt(kind, depth, step + 1);
                }
            }
            return made;
        }

        boolean twinFits(int a) {
            planArrays = 0;
            planElements = 0;
            plan(a, 1);
            return store.fits(planArrays, planElements);
        }

        private void plan(int a, int level) {
            planArrays++;
            planElements += store.length[a];
            if (store.depth[a] == 1 || level >= MOST_DEPTH) {
                return;
            }
            // Shared ROWS may stand for millions: beyond the bound nothing more needs counting.
            for (int i = 0; i < store.length[a] && planArrays <= MOST_ARRAYS; i++) {
                int next = (int) store.bits[store.start[a] + i];
                if (store.has(next)) {
                    plan(next, level + 1);
                }
            }
        }

        /** Only behind twinFits(). */
        int makeTwin(int a) {
            return twinAt(a, 1);
        }

        private int twinAt(int a, int level) {
            int n = store.length[a];
            if (level > MOST_DEPTH || !store.fits(1, n)) {
                return NULL_ROW;
            }
            int made = store.add(store.kind[a], store.depth[a], store.cls[a], n);
            int from = store.start[a];
            int to = store.start[made];
            if (store.depth[a] == 1) {
                System.arraycopy(store.bits, from, store.bits, to, n);
                return made;
            }
            for (int i = 0; i < n; i++) {
                int next = (int) store.bits[from + i];
                if (store.has(next)) {
                    store.bits[to + i] = twinAt(next, level + 1);
                }
            }
            return made;
        }
    }

    /** Likeness and HASH; what one call has found of an array it does not look for again. */
    private static final class Likeness {
        private final Store store;
        /** The round of a call: notes of other rounds are out of date without being wiped. */
        private int round;
        private final int[] agreed = new int[MOST_ARRAYS * MOST_ARRAYS];
        private final int[] digested = new int[MOST_ARRAYS];
        private final int[] digests = new int[MOST_ARRAYS];

        Likeness(Store store) {
            this.store = store;
        }

        boolean agree(int a, int b) {
            round++;
            return agreeAt(a, b, 1);
        }

        private boolean agreeAt(int a, int b, int level) {
            if (a == b || agreed[a * MOST_ARRAYS + b] == round) {
                return true;
            }
            if (level > MOST_DEPTH || !sameShape(a, b)) {
                return false;
            }
            boolean flat = store.depth[a] == 1;
            for (int i = 0; i < store.length[a]; i++) {
                long x = store.bits[store.start[a] + i];
                long y = store.bits[store.start[b] + i];
                if (x != y && (flat || !rowsAgree((int) x, (int) y, level))) {
                    return false;
                }
            }
            agreed[a * MOST_ARRAYS + b] = round;
            return true;
        }

        private boolean rowsAgree(int x, int y, int level) {
            return store.has(x) && store.has(y) && agreeAt(x, y, level + 1);
        }

        private boolean sameShape(int a, int b) {
            return store.kind[a] == store.kind[b] && store.depth[a] == store.depth[b]
                && store.length[a] == store.length[b];
        }

        int digest(int a) {
            round++;
            return digestAt(a, 1);
        }

        private int digestAt(int a, int level) {
            if (level > MOST_DEPTH) {
                return 0;
            }
            if (digested[a] == round) {
                return digests[a];
            }
            boolean flat = store.depth[a] == 1;
            int hash = 1;
            for (int i = 0; i < store.length[a]; i++) {
                long there = store.bits[store.start[a] + i];
                int part = 0;
                if (flat) {
                    part = Kinds.hashOf(store.kind[a], there);
                } else if (store.has((int) there)) {
                    part = digestAt((int) there, level + 1);
                }
                hash = 31 * hash + part;
            }
            digested[a] = round;
            digests[a] = hash;
            return hash;
        }
    }

    /** DECISIONS and their CANDIDATES. */
    private static final class Choices {
        private final Store store;
        int made;
        final int[] places = new int[MOST_DECISIONS];
        final int[] slots = new int[MOST_DECISIONS];
        final int[] counts = new int[MOST_DECISIONS];
        private final long[] candidates = new long[MOST_DECISIONS * MOST_CANDIDATES];
        private final int[] turns = new int[MOST_DECISIONS];

        Choices(Store store) {
            this.store = store;
        }

        boolean has(int d) {
            return d >= 0 && d < made;
        }

        boolean hasCandidate(int d, int c) {
            return has(d) && c >= 0 && c < counts[d];
        }

        int at(int where) {
            for (int d = 0; d < made; d++) {
                if (places[d] == where) {
                    return d;
                }
            }
            return NONE;
        }

        int add(int where) {
            places[made] = where;
            slots[made] = store.slotOf(where);
            counts[made] = 0;
            made++;
            return made - 1;
        }

        int arrayOf(int d) {
            return places[d] / PER_ARRAY;
        }

        int kindOf(int d) {
            return store.kind[arrayOf(d)];
        }

        long candidateAt(int d, int c) {
            return candidates[d * MOST_CANDIDATES + c];
        }

        int indexOf(int d, long value) {
            for (int c = 0; c < counts[d]; c++) {
                if (candidateAt(d, c) == value) {
                    return c;
                }
            }
            return NONE;
        }

        /** Only while there are fewer than 16. */
        void append(int d, long value) {
            candidates[d * MOST_CANDIDATES + counts[d]] = value;
            counts[d]++;
        }

        /** Whether all of them fit; those that did are appended either way. */
        boolean appendSpan(int d, long low, long high, long step) {
            if (low > high) {
                return true;
            }
            long value = low;
            // Each turn leaves a value of its own among the CANDIDATES: the 17th does not fit.
            for (int turn = 0; turn <= MOST_CANDIDATES; turn++) {
                if (indexOf(d, value) < 0) {
                    if (counts[d] >= MOST_CANDIDATES) {
                        return false;
                    }
                    append(d, value);
                }
                // Below 0 where 64 bits are too few for it, and then no step is as long.
                long left = high - value;
                if (left >= 0 && left < step) {
                    return true;
                }
                value += step;
            }
            return false;
        }

        private boolean isFree(int d) {
            return counts[d] > 0 && !store.pinned[slots[d]];
        }

        int ways() {
            int ways = 1;
            for (int d = 0; d < made; d++) {
                if (isFree(d)) {
                    ways *= counts[d];
                }
                if (ways > MOST_WAYS) {
                    return MOST_WAYS + 1;
                }
            }
            return ways;
        }

        /** Ways are numbered in their order: the last DECISION is the lowest digit. */
        void takeWay(int way) {
            int left = way;
            for (int d = made - 1; d >= 0; d--) {
                if (isFree(d)) {
                    turns[d] = left % counts[d];
                    left = left / counts[d];
                    store.bits[slots[d]] = candidateAt(d, turns[d]);
                }
            }
        }

        void takeNext(Rules rules) {
            for (int d = made - 1; d >= 0; d--) {
                if (isFree(d) && counts[d] > 1) {
                    turns[d] = turns[d] + 1 < counts[d] ? turns[d] + 1 : 0;
                    rules.replace(places[d], candidateAt(d, turns[d]));
                    if (turns[d] > 0) {
                        return;
                    }
                }
            }
        }
    }

    /** RULES; each keeps a tally, from which its AMOUNT is told. */
    private static final class Rules {
        private final Store store;
        int made;
        private final int[] sorts = new int[MOST_RULES];
        private final int[] judged = new int[MOST_RULES];
        private final int[] weights = new int[MOST_RULES];
        private final long[] lows = new long[MOST_RULES];
        private final long[] highs = new long[MOST_RULES];
        private final long[] tallies = new long[MOST_RULES];
        private final long[] borne = new long[MOST_RULES];

        Rules(Store store) {
            this.store = store;
        }

        /** Only while there are fewer than 12. */
        int add(int sort, int a, int weight, long low, long high) {
            sorts[made] = sort;
            judged[made] = a;
            weights[made] = weight;
            lows[made] = low;
            highs[made] = high;
            made++;
            return made - 1;
        }

        long total() {
            long sum = 0;
            for (int r = 0; r < made; r++) {
                sum += amountOf(r) * weights[r];
            }
            return sum;
        }

        long amountOf(int r) {
            long tally = tallies[r];
            if (sorts[r] == SUM) {
                if (tally < lows[r]) {
                    return apart(lows[r], tally);
                }
                return tally > highs[r] ? apart(tally, highs[r]) : 0L;
            }
            return sorts[r] == COUNT ? apart(tally, highs[r]) : tally;
        }

        private static long apart(long x, long y) {
            long far = x > y ? x - y : y - x;
            // Below 0 where 64 bits are too few for it.
            return far < 0 || far > MOST_AMOUNT ? MOST_AMOUNT : far;
        }

        void measureAll() {
            for (int r = 0; r < made; r++) {
                measure(r);
            }
        }

        void measure(int r) {
            long tally = 0;
            for (int p = 0; p < store.length[judged[r]]; p++) {
                long share = shareOf(r, p);
                tally = sorts[r] == FAR ? Math.max(tally, share) : tally + share;
            }
            tallies[r] = tally;
        }

        /** What the element at a place adds to the tally of those before it. */
        private long shareOf(int r, int p) {
            int a = judged[r];
            int kind = store.kind[a];
            int slot = store.start[a] + p;
            long here = store.bits[slot];
            long last = p > 0 ? store.bits[slot - 1] : here;
            switch (sorts[r]) {
                case SUM:
                    return Kinds.number(kind, here);
                case UNLIKE:
                    return alikeIn(kind, here, store.start[a], slot);
                case RISING:
                    return Kinds.rank(kind, here) < Kinds.rank(kind, last) ? 1L : 0L;
                case COUNT:
                    return here == lows[r] ? 1L : 0L;
                case CHANGES:
                    return here != last ? 1L : 0L;
                default:
                    return apart(Kinds.number(kind, here), Kinds.number(kind, last));
            }
        }

        private long alikeIn(int kind, long value, int from, int to) {
            long found = 0;
            for (int slot = from; slot < to; slot++) {
                if (Kinds.alike(kind, value, store.bits[slot])) {
                    found++;
                }
            }
            return found;
        }

        /** Writes an element and keeps the tallies right, so that not all is judged for each way. */
        void replace(int where, long value) {
            int a = where / PER_ARRAY;
            int p = where % PER_ARRAY;
            for (int r = 0; r < made; r++) {
                borne[r] = judged[r] == a ? bearingOf(r, p) : 0L;
            }
            store.bits[store.start[a] + p] = value;
            for (int r = 0; r < made; r++) {
                if (judged[r] == a) {
                    adjust(r, borne[r], bearingOf(r, p));
                }
            }
        }

        private void adjust(int r, long before, long now) {
            if (sorts[r] != FAR) {
                tallies[r] += now - before;
            } else if (now >= tallies[r]) {
                tallies[r] = now;
            } else if (before == tallies[r]) {
                // The greatest step may be gone, and which one is the next is not kept.
                measure(r);
            }
        }

        /** What in the tally depends on the element at a place. */
        private long bearingOf(int r, int p) {
            int a = judged[r];
            int first = store.start[a];
            int next = first + p + 1;
            int end = first + store.length[a];
            long bearing = shareOf(r, p);
            switch (sorts[r]) {
                case UNLIKE:
                    return bearing + alikeIn(store.kind[a], store.bits[first + p], next, end);
                case RISING:
                case CHANGES:
                    return next < end ? bearing + shareOf(r, p + 1) : bearing;
                case FAR:
                    return next < end ? Math.max(bearing, shareOf(r, p + 1)) : bearing;
                default:
                    return bearing;
            }
        }
    }

    /** What all elements were, and which were PINNED. */
    private static final class Mark {
        private final long[] bits = new long[MOST_ELEMENTS];
        private final boolean[] pinned = new boolean[MOST_ELEMENTS];
        private int used;

        void keep(Store store) {
            used = store.used;
            for (int slot = 0; slot < used; slot++) {
                bits[slot] = store.bits[slot];
                pinned[slot] = store.pinned[slot];
            }
        }

        void bringBack(Store store) {
            for (int slot = 0; slot < used; slot++) {
                store.bits[slot] = bits[slot];
                store.pinned[slot] = pinned[slot];
            }
        }
    }
}
