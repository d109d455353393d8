/** Objects and contents that several tests need. */
final class Make {
    static final long NO_FLOAT = 0x7FC00000L;
    static final long NO_DOUBLE = 0x7FF8000000000000L;
    static final int[] NO_ARRAYS = {-1, Integer.MIN_VALUE, Integer.MAX_VALUE};
    static final int[] NO_KINDS = {-1, 9, Integer.MIN_VALUE, Integer.MAX_VALUE};

    private Make() { }

    /** A new object whose array 0, of DEPTH 1, holds these. */
    static DecisionArrays of(int kind, long... bits) {
        DecisionArrays x = new DecisionArrays();
        add(x, kind, bits);
        return x;
    }

    /** A new array of DEPTH 1 with these: its number. */
    static int add(DecisionArrays x, int kind, long... bits) {
        int a = x.array(kind, bits.length);
        put(x, a, bits);
        return a;
    }

    static void put(DecisionArrays x, int a, long... bits) {
        int kind = x.about(a, 0);
        for (int i = 0; i < bits.length; i++) {
            Due.is("put", x.write(a, i, 0, 0, 0, kind, bits[i]), 0);
        }
    }

    static void holds(String what, DecisionArrays x, int a, long... bits) {
        int kind = x.about(a, 0);
        Due.is(what + ": length", x.about(a, 2), bits.length);
        for (int i = 0; i < bits.length; i++) {
            Due.fine(what + ": place " + i, x, x.read(a, i, 0, 0, 0, kind), bits[i]);
        }
    }

    static long at(DecisionArrays x, int a, int i) {
        return x.read(a, i, 0, 0, 0, x.about(a, 0));
    }

    /** Arrays 0 .. 3 of DEPTH 1 .. 4; those with ROWS have two: null, and the array before. */
    static DecisionArrays ladder(int kind, int length) {
        DecisionArrays x = new DecisionArrays();
        x.array(kind, length);
        for (int a = 1; a <= 3; a++) {
            x.rows(a - 1, 2);
            x.setRow(a, 1, a - 1);
        }
        return x;
    }

    static long f(double value) {
        return Float.floatToIntBits((float) value);
    }

    static long d(double value) {
        return Double.doubleToLongBits(value);
    }
}
