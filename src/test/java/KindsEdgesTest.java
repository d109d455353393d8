/** The edges that "What it is" and "Terms" name for kinds, BITS and NUMBERS, each behind its sentence. */
public final class KindsEdgesTest {
    private static final long[] LOWEST = {
        0, 0, -128, -32768, Integer.MIN_VALUE, Long.MIN_VALUE, Integer.MIN_VALUE, Long.MIN_VALUE, 0
    };
    private static final long[] HIGHEST = {
        1, 65535, 127, 32767, Integer.MAX_VALUE, Long.MAX_VALUE, 0x7F800000L, 0x7FF0000000000000L, 1000
    };

    public static void main(String[] args) {
        kinds();
        calls();
        things();
        bitsOfValues();
        noNumbers();
        bitsThatAreNone();
        widening();
        nearest();
        sameDouble();
        order();
        wholeTowardsZero();
        Due.end();
    }

    private static void kinds() {
        Due.says("KINDS are 0 boolean, 1 char, 2 byte, 3 short, 4 int, 5 long, 6 float, 7 double, 8 THINGS");
        for (int kind = 0; kind <= 8; kind++) {
            DecisionArrays x = new DecisionArrays();
            Due.fine("array of kind " + kind, x, x.array(kind, 1), 0);
            Due.fine("read as kind " + kind, x, x.read(0, 0, 0, 0, 0, kind), 0);
            Due.fine("write as kind " + kind, x, x.write(0, 0, 0, 0, 0, kind, 1), 0);
            Due.fine("fill as kind " + kind, x, x.fill(0, 0, 1, kind, 0), 1);
            Due.fine("column of kind " + kind, x, x.column(kind, 0), 0);
            Due.fine("kind " + kind + " to itself", x, x.widens(kind, kind), 1);
        }
        for (int kind : Make.NO_KINDS) {
            DecisionArrays x = Make.of(4, 0);
            Due.fails("array of kind " + kind, x, x.array(kind, 1), 9);
            Due.fails("grid of kind " + kind, x, x.grid(kind, 1, 1, 1, 1, 1), 9);
            Due.fails("read as kind " + kind, x, x.read(0, 0, 0, 0, 0, kind), 0, 9);
            Due.fails("write as kind " + kind, x, x.write(0, 0, 0, 0, 0, kind, 0), 9);
            Due.fails("fill as kind " + kind, x, x.fill(0, 0, 1, kind, 0), 9);
            Due.fails("column of kind " + kind, x, x.column(kind, 0), 9);
            Due.fails("from kind " + kind, x, x.widens(kind, 4), 9);
            Due.fails("to kind " + kind, x, x.widens(4, kind), 9);
        }
    }

    private static void calls() {
        Due.says("An object is used for at most 512 calls after it has been made");
        DecisionArrays x = new DecisionArrays();
        Due.is("call 1", x.array(5, 200), 0);
        for (int call = 2; call < 512; call += 2) {
            Due.is("call " + call, x.write(0, call % 200, 0, 0, 0, 5, call), 0);
            Due.is("call " + (call + 1), x.read(0, call % 200, 0, 0, 0, 5), call);
        }
        Due.is("call 512", x.read(0, 110, 0, 0, 0, 5), 510);
        DecisionArrays y = new DecisionArrays();
        y.array(5, 200);
        for (int call = 2; call < 512; call += 2) {
            Due.is("a mark more", y.mark(), 1);
            Due.is("and back", y.back(), 0);
        }
        DecisionArrays z = new DecisionArrays();
        for (int call = 1; call <= 512; call++) {
            Due.is("array " + call, z.array(0, 1), call <= 60 ? call - 1 : -8);
        }
    }

    private static void things() {
        Due.says("0 (null), or 1 .. 1000, THING t being of CLASS t modulo 7.");
        for (int t = 0; t <= 1000; t++) {
            DecisionArrays x = new DecisionArrays();
            for (int cls = 0; cls <= 6; cls++) {
                x.things(cls, 1);
                boolean taken = t == 0 || t % 7 == cls;
                Due.is("thing " + t + " in class " + cls, x.write(cls, 0, 0, 0, 0, 8, t), taken ? 0 : -7);
                Due.is("thing " + t + " is there", x.read(cls, 0, 0, 0, 0, 8), taken ? t : 0);
            }
        }
        DecisionArrays x = Make.of(8, 0);
        for (long t : new long[] {-1, 1001, Long.MIN_VALUE, Long.MAX_VALUE, (1L << 32) + 1}) {
            Due.fails("thing " + t, x, x.write(0, 0, 0, 0, 0, 8, t), 9);
        }
    }

    private static void bitsOfValues() {
        Due.says("BITS of a value are a long: 0 or 1; the number (of a char 0 .. 65535); "
            + "the 32 bits of a float as an int; the 64 of a double; the THING.");
        for (int kind = 0; kind <= 8; kind++) {
            DecisionArrays x = Make.of(kind, 0);
            Due.fine("lowest of " + kind, x, x.write(0, 0, 0, 0, 0, kind, LOWEST[kind]), 0);
            Make.holds("lowest of " + kind, x, 0, LOWEST[kind]);
            Due.fine("highest of " + kind, x, x.write(0, 0, 0, 0, 0, kind, HIGHEST[kind]), 0);
            Make.holds("highest of " + kind, x, 0, HIGHEST[kind]);
        }
        DecisionArrays x = Make.of(6, 0);
        Due.fine("- 1.5 as an int", x, x.write(0, 0, 0, 0, 0, 6, 0xFFFFFFFFBFC00000L), 0);
        Make.holds("- 1.5", x, 0, Make.f(-1.5));
        Due.fails("- 1.5 without its sign", x, x.write(0, 0, 0, 0, 0, 6, 0xBFC00000L), 9);
        Due.fails("the 64 of a double", x, x.write(0, 0, 0, 0, 0, 6, Make.d(1.5)), 9);
    }

    private static void noNumbers() {
        Due.says("There is one no-number of floats (0x7FC00000) and one of doubles (0x7FF8000000000000): "
            + "others become it.");
        for (long bits : new long[] {0x7F800001L, Make.NO_FLOAT, 0x7FFFFFFFL, (int) 0xFF800001, (int) 0xFFC00000, -1}) {
            becomesTheOne(6, bits, Make.NO_FLOAT);
            DecisionArrays x = Make.of(7, 0);
            Due.fine("widened", x, x.write(0, 0, 0, 0, 0, 6, bits), 0);
            Make.holds("widened", x, 0, Make.NO_DOUBLE);
        }
        for (long bits : new long[] {0x7FF0000000000001L, Make.NO_DOUBLE, Long.MAX_VALUE, 0xFFF0000000000001L,
            0xFFF8000000000000L, -1}) {
            becomesTheOne(7, bits, Make.NO_DOUBLE);
        }
        for (long bits : new long[] {0x7F800000L, (int) 0xFF800000}) {
            Make.holds("an endless float stays", Make.of(6, bits), 0, bits);
        }
        for (long bits : new long[] {0x7FF0000000000000L, 0xFFF0000000000000L}) {
            Make.holds("an endless double stays", Make.of(7, bits), 0, bits);
        }
    }

    private static void becomesTheOne(int kind, long bits, long one) {
        DecisionArrays x = Make.of(kind, bits, 0);
        Make.holds("written", x, 0, one, 0);
        Due.fine("filled", x, x.fill(0, 1, 2, kind, bits), 1);
        Make.holds("filled", x, 0, one, one);
        Due.fine("sought", x, x.search(0, bits), 0);
        int r = x.rule(3, 0, 1, bits, 0);
        Due.fine("counted", x, x.amount(r), 2);
        int d = x.decide(0, 0, 0, 0, 0);
        Due.fails("no candidate", x, x.candidate(d, bits), 9);
    }

    private static void bitsThatAreNone() {
        Due.says("BITS that no value of a kind has (2 of a boolean, 300 of a byte, a THING above 1000 ..) "
            + "are none of it.");
        areNone(0, 2);
        areNone(2, 300);
        areNone(8, 1001);
        for (int kind : new int[] {0, 1, 2, 3, 4, 8}) {
            areNone(kind, LOWEST[kind] - 1);
            areNone(kind, HIGHEST[kind] + 1);
            areNone(kind, LOWEST[kind] + (1L << 32));
            areNone(kind, Long.MIN_VALUE);
            areNone(kind, Long.MAX_VALUE);
        }
        areNone(6, -(1L << 31) - 1);
        areNone(6, 1L << 31);
        areNone(6, Long.MAX_VALUE);
    }

    private static void areNone(int kind, long bits) {
        DecisionArrays x = Make.of(kind, 1);
        String what = bits + " of kind " + kind;
        Due.fails("write " + what, x, x.write(0, 0, 0, 0, 0, kind, bits), 9);
        Due.fails("fill " + what, x, x.fill(0, 0, 1, kind, bits), 9);
        Due.fails("search " + what, x, x.search(0, bits), 9);
        Due.fails("rule of " + what, x, x.rule(3, 0, 1, bits, 0), 9);
        int d = x.decide(0, 0, 0, 0, 0);
        Due.fails("candidate " + what, x, x.candidate(d, bits), 9);
        Due.fails("span from " + what, x, x.span(d, bits, 1, 1), 9);
        Due.fails("span up to " + what, x, x.span(d, 1, bits, 1), 9);
        Make.holds("nothing became " + what, x, 0, 1);
    }

    private static void widening() {
        Due.says("A kind WIDENS to itself; 1 to 4 .. 7; 2 to 3 .. 7; 3 to 4 .. 7; 4 to 5 .. 7; 5 to 6 and 7; 6 to 7");
        String[] due = {
            "100000000", "010011110", "001111110", "000111110", "000011110", "000001110", "000000110",
            "000000010", "000000001"
        };
        for (int from = 0; from <= 8; from++) {
            for (int to = 0; to <= 8; to++) {
                boolean widens = due[from].charAt(to) == '1';
                String what = from + " to " + to;
                DecisionArrays x = Make.of(from, 0);
                x.array(to, 1);
                Due.fine("widens " + what, x, x.widens(from, to), widens ? 1 : 0);
                x.read(0, 0, 0, 0, 0, to);
                Due.is("read " + what, x.code(), widens ? 0 : 1);
                x.write(1, 0, 0, 0, 0, from, 0);
                Due.is("write " + what, x.code(), widens ? 0 : 1);
                x.fill(1, 0, 1, from, 0);
                Due.is("fill " + what, x.code(), widens ? 0 : 1);
            }
        }
    }

    private static void nearest() {
        Due.says("a whole becomes the nearest float or double (of two as near the even one)");
        long p24 = 1L << 24;
        long p53 = 1L << 53;
        for (int whole = 1; whole <= 4; whole++) {
            toFloat(whole, Make.f(whole));
            toDouble(whole, Make.d(whole));
        }
        toFloat(p24 - 1, Make.f(16777215));
        toFloat(p24 + 1, Make.f(16777216));
        toFloat(p24 + 2, Make.f(16777218));
        toFloat(p24 + 3, Make.f(16777220));
        toFloat(2 * p24 + 2, Make.f(33554432));
        toFloat(2 * p24 + 3, Make.f(33554436));
        toFloat(2 * p24 + 5, Make.f(33554436));
        toFloat(Integer.MAX_VALUE, Make.f(0x1p31));
        toFloat(Long.MAX_VALUE, Make.f(0x1p63));
        toFloat((1L << 62) + (1L << 38), Make.f(0x1p62));
        toFloat((1L << 62) + (1L << 38) + 1, Make.f(0x1.000002p62));
        toDouble(p53 - 1, Make.d(9007199254740991.0));
        toDouble(p53 + 1, Make.d(9007199254740992.0));
        toDouble(p53 + 2, Make.d(9007199254740994.0));
        toDouble(p53 + 3, Make.d(9007199254740996.0));
        toDouble(Long.MAX_VALUE, Make.d(0x1p63));
        toDouble(Long.MAX_VALUE - 511, Make.d(0x1p63));
        toDouble(Long.MAX_VALUE - 512, Make.d(0x1.fffffffffffffp62));
        toDouble(0, 0);
        toFloat(0, 0);
        DecisionArrays x = Make.of(5, Long.MIN_VALUE);
        Due.fine("the least long as a float", x, x.read(0, 0, 0, 0, 0, 6), Make.f(-0x1p63));
        Due.fine("the least long as a double", x, x.read(0, 0, 0, 0, 0, 7), Make.d(-0x1p63));
    }

    private static void toFloat(long whole, long due) {
        widensTo(6, whole, due);
        if (whole != 0) {
            widensTo(6, -whole, (int) (due | 0x80000000L));
        }
    }

    private static void toDouble(long whole, long due) {
        widensTo(7, whole, due);
        if (whole != 0) {
            widensTo(7, -whole, due | Long.MIN_VALUE);
        }
    }

    private static void widensTo(int kind, long whole, long due) {
        DecisionArrays x = Make.of(5, whole);
        String what = whole + " as kind " + kind;
        Due.fine("read " + what, x, x.read(0, 0, 0, 0, 0, kind), due);
        x.array(kind, 2);
        Due.fine("write " + what, x, x.write(1, 0, 0, 0, 0, 5, whole), 0);
        Due.fine("fill " + what, x, x.fill(1, 1, 2, 5, whole), 1);
        Make.holds(what, x, 1, due, due);
    }

    private static void sameDouble() {
        Due.says("a float the same double, a no-number the no-number.");
        long[][] due = {
            {0, 0}, {(int) 0x80000000, Make.d(-0.0)}, {1, Make.d(0x1p-149)}, {(int) 0x80000001, Make.d(-0x1p-149)},
            {0x7FFFFF, Make.d(0x1.fffffcp-127)}, {0x800000, Make.d(0x1p-126)}, {0x7F7FFFFF, Make.d(0x1.fffffep127)},
            {0x7F800000, Make.d(Double.POSITIVE_INFINITY)}, {(int) 0xFF800000, Make.d(Double.NEGATIVE_INFINITY)},
            {Make.NO_FLOAT, Make.NO_DOUBLE}, {(int) 0xFFC00001, Make.NO_DOUBLE}, {0x3FC00000, Make.d(1.5)}
        };
        for (long[] pair : due) {
            DecisionArrays x = Make.of(6, pair[0]);
            Due.fine("read " + pair[0], x, x.read(0, 0, 0, 0, 0, 7), pair[1]);
            x.array(7, 1);
            Due.fine("write " + pair[0], x, x.write(1, 0, 0, 0, 0, 6, pair[0]), 0);
            Make.holds("as a double", x, 1, pair[1]);
        }
    }

    private static void order() {
        Due.says("of a boolean 0, 1; of a THING itself; of a float, double in order as it is "
            + "(- 0 below 0, the no-number above all)");
        inOrder(0, 0, 1);
        inOrder(1, 0, 32768, 65535);
        inOrder(2, -128, -1, 0, 127);
        inOrder(3, -32768, -1, 0, 32767);
        inOrder(4, Integer.MIN_VALUE, -1, 0, Integer.MAX_VALUE);
        inOrder(5, Long.MIN_VALUE, -1, 0, Long.MAX_VALUE);
        inOrder(6, (int) 0xFF800000, (int) 0xFF7FFFFF, Make.f(-1), (int) 0x80000001, (int) 0x80000000, 0, 1,
            Make.f(1), 0x7F7FFFFF, 0x7F800000, Make.NO_FLOAT);
        inOrder(7, 0xFFF0000000000000L, Make.d(-Double.MAX_VALUE), Make.d(-1), 0x8000000000000001L, Long.MIN_VALUE,
            0, 1, Make.d(1), Make.d(Double.MAX_VALUE), 0x7FF0000000000000L, Make.NO_DOUBLE);
        inOrder(8, 0, 1, 7, 8, 1000);
    }

    /** These stand in order: sort() brings them there from the other end, RISING and search() agree. */
    private static void inOrder(int kind, long... bits) {
        int n = bits.length;
        DecisionArrays x = new DecisionArrays();
        x.array(kind, n);
        for (int i = 0; i < n; i++) {
            x.write(0, n - 1 - i, 0, 0, 0, kind, bits[i]);
        }
        int r = x.rule(2, 0, 1, 0, 0);
        Due.fine("all fall", x, x.amount(r), n - 1);
        Due.fine("sorted", x, x.sort(0, 0, n), n - n % 2);
        Make.holds("in order", x, 0, bits);
        Due.fine("none falls", x, x.amount(r), 0);
        for (int i = 0; i < n; i++) {
            Due.fine("sought", x, x.search(0, bits[i]), i);
        }
    }

    private static void wholeTowardsZero() {
        Due.says("in sums the whole towards 0 (0 of the no-number; at most 2^63 - 1, at least - 2^63).");
        numberIs(7, Make.d(1.999), 1);
        numberIs(7, Make.d(-1.999), -1);
        numberIs(7, Make.d(0.999), 0);
        numberIs(7, Make.d(-0.999), 0);
        numberIs(7, Make.d(-0.0), 0);
        numberIs(7, 1, 0);
        numberIs(7, Make.NO_DOUBLE, 0);
        numberIs(7, Make.d(0x1p63), Long.MAX_VALUE);
        numberIs(7, Make.d(0x1.fffffffffffffp62), Long.MAX_VALUE - 1023);
        numberIs(7, Make.d(-0x1.fffffffffffffp62), -Long.MAX_VALUE + 1023);
        numberIs(7, Make.d(-0x1p63), Long.MIN_VALUE);
        numberIs(7, Make.d(-0x1.0000000000001p63), Long.MIN_VALUE);
        numberIs(7, Make.d(Double.POSITIVE_INFINITY), Long.MAX_VALUE);
        numberIs(7, Make.d(Double.NEGATIVE_INFINITY), Long.MIN_VALUE);
        numberIs(6, Make.f(1.999), 1);
        numberIs(6, Make.f(-1.999), -1);
        numberIs(6, Make.f(-0.999), 0);
        numberIs(6, Make.NO_FLOAT, 0);
        numberIs(6, Make.f(0x1p63), Long.MAX_VALUE);
        numberIs(6, Make.f(0x1.fffffep62), 0x7FFFFF8000000000L);
        numberIs(6, Make.f(-0x1p63), Long.MIN_VALUE);
        numberIs(6, 0x7F800000, Long.MAX_VALUE);
        numberIs(6, (int) 0xFF800000, Long.MIN_VALUE);
        numberIs(0, 1, 1);
        numberIs(1, 65535, 65535);
        numberIs(8, 1000, 1000);
        numberIs(8, 0, 0);
    }

    /** SUM of the one element has no AMOUNT where both bounds are its NUMBER, and 1 where they are beside it. */
    private static void numberIs(int kind, long bits, long due) {
        DecisionArrays x = Make.of(kind, bits);
        Due.fine("number " + due, x, x.amount(x.rule(0, 0, 1, due, due)), 0);
        if (due < Long.MAX_VALUE) {
            Due.fine("below " + (due + 1), x, x.amount(x.rule(0, 0, 1, due + 1, Long.MAX_VALUE)), 1);
        }
        if (due > Long.MIN_VALUE) {
            Due.fine("above " + (due - 1), x, x.amount(x.rule(0, 0, 1, Long.MIN_VALUE, due - 1)), 1);
        }
    }
}
