/** Promises 9 to 15: read, write, place, pin, column, code, widens. */
public final class ElementsTest {
    private static final long NO_FLOAT = 0x7FC00000L;
    private static final long NO_DOUBLE = 0x7FF8000000000000L;

    public static void main(String[] args) {
        paths();
        readCodes();
        writeBits();
        writeCodes();
        noNumbers();
        pin();
        column();
        code();
        widens();
        numbersWiden();
        Due.end();
    }

    /** A grid of depth 3 (0), and one of depth 4 above it (7) with nulls. */
    private static DecisionArrays deepOne() {
        DecisionArrays x = new DecisionArrays();
        x.grid(4, 3, 2, 2, 2, 0);
        x.rows(0, 3);
        x.setRow(7, 1, 0);
        x.setRow(4, 0, -1);
        return x;
    }

    private static void paths() {
        DecisionArrays x = deepOne();
        Due.fine("11 depth 3", x, x.place(0, 0, 1, 1, -9), 3001);
        Due.fine("11 depth 4", x, x.place(7, 1, 0, 1, 1), 3001);
        Due.fine("11 depth 1", x, x.place(3, 1, -1, -1, -1), 3001);
        Due.fine("10 write by a path", x, x.write(7, 1, 0, 1, 1, 4, 77), 0);
        Due.fine("9 read by another", x, x.read(3, 1, 0, 0, 0, 4), 77);
        Due.fine("9 read by its own", x, x.read(7, 1, 0, 1, 1, 5), 77);
        Due.fails("11 no array", x, x.place(8, 0, 0, 0, 0), 5);
        Due.fails("11 array -1", x, x.place(-1, 0, 0, 0, 0), 5);
        Due.fails("11 index i", x, x.place(7, 3, 0, 0, 0), 2);
        Due.fails("11 index i -1", x, x.place(7, -1, 0, 0, 0), 2);
        Due.fails("11 null i", x, x.place(7, 0, 9, 9, 9), 3);
        Due.fails("11 index j", x, x.place(7, 1, 2, 0, 0), 2);
        Due.fails("11 index k ahead of null", x, x.place(7, 1, 1, 2, 0), 2);
        Due.fails("11 null k", x, x.place(7, 1, 1, 0, 9), 3);
        Due.fails("11 index l", x, x.place(7, 1, 1, 1, 2), 2);
        Due.fails("11 index l -1", x, x.place(7, 1, 1, 1, -1), 2);
    }

    private static void readCodes() {
        DecisionArrays x = deepOne();
        x.write(0, 0, 0, 0, 0, 4, -3);
        Due.fine("9 int", x, x.read(0, 0, 0, 0, 0, 4), -3);
        Due.fine("9 as long", x, x.read(0, 0, 0, 0, 0, 5), -3);
        Due.fine("9 as float", x, x.read(0, 0, 0, 0, 0, 6), Float.floatToIntBits(-3f));
        Due.fine("9 as double", x, x.read(0, 0, 0, 0, 0, 7), Double.doubleToLongBits(-3d));
        for (int reader : new int[] {0, 1, 2, 3, 8}) {
            Due.fails("9 reader " + reader, x, x.read(0, 0, 0, 0, 0, reader), 0, 1);
        }
        Due.fails("9 reader 9", x, x.read(0, 0, 0, 0, 0, 9), 0, 9);
        Due.fails("9 reader -1", x, x.read(0, 0, 0, 0, 0, -1), 0, 9);
        Due.fails("9 array ahead of reader", x, x.read(9, 0, 0, 0, 0, 9), 0, 5);
        Due.fails("9 reader ahead of index", x, x.read(0, 9, 0, 0, 0, 9), 0, 9);
        Due.fails("9 index", x, x.read(0, 2, 0, 0, 0, 4), 0, 2);
        Due.fails("9 index ahead of kind", x, x.read(0, 0, 0, 2, 0, 0), 0, 2);
        Due.fails("9 null ahead of kind", x, x.read(0, 1, 0, 0, 0, 0), 0, 3);
        Due.fine("9 code goes", x, x.read(0, 0, 0, 1, 0, 4), 0);
    }

    private static void writeBits() {
        long[][] edges = {
            {0, 1}, {0, 65535}, {-128, 127}, {-32768, 32767}, {Integer.MIN_VALUE, Integer.MAX_VALUE},
            {Long.MIN_VALUE, Long.MAX_VALUE}, {Integer.MIN_VALUE, Integer.MAX_VALUE},
            {Long.MIN_VALUE, Long.MAX_VALUE}, {0, 1000}
        };
        DecisionArrays x = new DecisionArrays();
        for (int kind = 0; kind <= 8; kind++) {
            x.array(kind, 1);
            long top = kind == 6 ? NO_FLOAT : kind == 7 ? NO_DOUBLE : edges[kind][1];
            Due.fine("10 lowest of " + kind, x, x.write(kind, 0, 0, 0, 0, kind, edges[kind][0]), 0);
            Due.fine("10 lowest is there", x, x.read(kind, 0, 0, 0, 0, kind), edges[kind][0]);
            Due.fine("10 highest of " + kind, x, x.write(kind, 0, 0, 0, 0, kind, edges[kind][1]), 0);
            Due.fine("10 highest is there", x, x.read(kind, 0, 0, 0, 0, kind), top);
            if (edges[kind][0] > Long.MIN_VALUE) {
                Due.fails("10 below " + kind, x, x.write(kind, 0, 0, 0, 0, kind, edges[kind][0] - 1), 9);
                Due.fails("10 above " + kind, x, x.write(kind, 0, 0, 0, 0, kind, edges[kind][1] + 1), 9);
            }
            Due.fine("10 nothing changed", x, x.read(kind, 0, 0, 0, 0, kind), top);
        }
        Due.fails("10 a float without its sign", x, x.write(6, 0, 0, 0, 0, 6, 0xFF800000L), 9);
        Due.fine("10 byte to short", x, x.write(3, 0, 0, 0, 0, 2, -128), 0);
        Due.fine("9 byte in a short", x, x.read(3, 0, 0, 0, 0, 3), -128);
        Due.fine("10 char to int", x, x.write(4, 0, 0, 0, 0, 1, 65535), 0);
        Due.fine("9 char in an int", x, x.read(4, 0, 0, 0, 0, 4), 65535);
        Due.fails("10 bits are of the writer", x, x.write(4, 0, 0, 0, 0, 2, 300), 9);
    }

    private static void writeCodes() {
        DecisionArrays x = deepOne();
        x.things(3, 2);
        Due.fails("10 no array", x, x.write(9, 0, 0, 0, 0, 4, 0), 5);
        Due.fails("10 array ahead of writer", x, x.write(-1, 0, 0, 0, 0, 9, 0), 5);
        Due.fails("10 writer 9", x, x.write(0, 0, 0, 0, 0, 9, 0), 9);
        Due.fails("10 writer -1", x, x.write(0, 0, 0, 0, 0, -1, 0), 9);
        Due.fails("10 bits ahead of index", x, x.write(0, 9, 0, 0, 0, 0, 2), 9);
        Due.fails("10 index ahead of kind", x, x.write(0, 9, 0, 0, 0, 5, 2), 2);
        Due.fails("10 null ahead of kind", x, x.write(0, 1, 0, 0, 0, 5, 2), 3);
        Due.fails("10 long to int", x, x.write(0, 0, 0, 0, 0, 5, 2), 1);
        Due.fails("10 thing to int", x, x.write(0, 0, 0, 0, 0, 8, 2), 1);
        Due.fails("10 boolean to int", x, x.write(0, 0, 0, 0, 0, 0, 1), 1);
        x.pin(0, 0, 0, 0, 0, true);
        Due.fails("10 kind ahead of pin", x, x.write(0, 0, 0, 0, 0, 5, 2), 1);
        Due.fails("10 pinned", x, x.write(0, 0, 0, 0, 0, 4, 2), 6);
        Due.fails("10 pinned, what is there", x, x.write(0, 0, 0, 0, 0, 4, 0), 6);
        Due.fine("10 its neighbour", x, x.write(0, 0, 0, 1, 0, 4, 2), 0);
        Due.fine("10 thing of the class", x, x.write(8, 0, 0, 0, 0, 8, 997), 0);
        Due.fails("10 thing of another", x, x.write(8, 0, 0, 0, 0, 8, 998), 7);
        Due.fine("10 is as it was", x, x.read(8, 0, 0, 0, 0, 8), 997);
        Due.fine("10 null", x, x.write(8, 0, 0, 0, 0, 8, 0), 0);
        x.pin(8, 0, 0, 0, 0, true);
        Due.fails("10 pin ahead of class", x, x.write(8, 0, 0, 0, 0, 8, 998), 6);
    }

    private static void noNumbers() {
        DecisionArrays x = new DecisionArrays();
        x.array(6, 1);
        x.array(7, 1);
        int[] floats = {0x7F800001, 0x7FFFFFFF, 0xFF800001, 0xFFC00000, -1, 0x7FC00000};
        for (int bits : floats) {
            x.write(0, 0, 0, 0, 0, 6, 0);
            Due.fine("10 no-number", x, x.write(0, 0, 0, 0, 0, 6, bits), 0);
            Due.fine("9 the one", x, x.read(0, 0, 0, 0, 0, 6), NO_FLOAT);
            Due.fine("9 the double one", x, x.read(0, 0, 0, 0, 0, 7), NO_DOUBLE);
            x.write(1, 0, 0, 0, 0, 7, 0);
            Due.fine("10 float to double", x, x.write(1, 0, 0, 0, 0, 6, bits), 0);
            Due.fine("9 widened", x, x.read(1, 0, 0, 0, 0, 7), NO_DOUBLE);
        }
        long[] doubles = {0x7FF0000000000001L, Long.MAX_VALUE, 0xFFF0000000000001L, -1L, NO_DOUBLE};
        for (long bits : doubles) {
            x.write(1, 0, 0, 0, 0, 7, 0);
            Due.fine("10 no-number", x, x.write(1, 0, 0, 0, 0, 7, bits), 0);
            Due.fine("9 the one", x, x.read(1, 0, 0, 0, 0, 7), NO_DOUBLE);
        }
        Due.fine("10 endless", x, x.write(0, 0, 0, 0, 0, 6, 0x7F800000L), 0);
        Due.fine("9 endless", x, x.read(0, 0, 0, 0, 0, 6), 0x7F800000L);
        Due.fine("10 endless below", x, x.write(1, 0, 0, 0, 0, 7, 0xFFF0000000000000L), 0);
        Due.fine("9 endless below", x, x.read(1, 0, 0, 0, 0, 7), 0xFFF0000000000000L);
    }

    private static void pin() {
        DecisionArrays x = deepOne();
        Due.fine("12 was not", x, x.pin(7, 1, 0, 0, 1, true), 0);
        Due.fine("12 was", x, x.pin(2, 1, 0, 0, 0, true), 1);
        Due.fails("12 stays", x, x.write(2, 1, 0, 0, 0, 4, 5), 6);
        Due.fine("12 off", x, x.pin(0, 0, 0, 1, 0, false), 1);
        Due.fine("12 off again", x, x.pin(0, 0, 0, 1, 0, false), 0);
        Due.fine("12 free", x, x.write(2, 1, 0, 0, 0, 4, 5), 0);
        Due.fails("12 no array", x, x.pin(8, 0, 0, 0, 0, true), 5);
        Due.fails("12 index", x, x.pin(0, 0, 2, 0, 0, true), 2);
        Due.fails("12 null", x, x.pin(0, 1, 0, 9, 0, true), 3);
    }

    private static void column() {
        DecisionArrays x = new DecisionArrays();
        x.array(4, 2);
        x.array(5, 3);
        x.rows(0, 5);
        x.array(4, 0);
        x.array(4, 2);
        Due.fine("13 first", x, x.column(4, 0), 0);
        Due.fine("13 second", x, x.column(4, 1), 1);
        Due.fine("13 third", x, x.column(4, 2), 4000);
        Due.fine("13 last", x, x.column(4, 3), 4001);
        Due.fine("13 none", x, x.column(4, 4), -2);
        Due.fine("13 of longs", x, x.column(5, 2), 1002);
        Due.fine("13 none of shorts", x, x.column(3, 0), -2);
        Due.fine("13 greatest", x, x.column(4, Integer.MAX_VALUE), -2);
        for (int a = 5; a < 60; a++) {
            x.array(4, 1);
        }
        Due.fine("13 last of 60", x, x.column(4, 58), 59000);
        Due.fine("13 none in 60", x, x.column(4, 59), -2);
        Due.fails("13 below 0", x, x.column(4, -1), 9);
        Due.fails("13 kind 9", x, x.column(9, 0), 9);
        Due.fails("13 kind -1", x, x.column(-1, 0), 9);
    }

    private static void code() {
        DecisionArrays x = new DecisionArrays();
        x.array(4, -1);
        Due.is("14 code", x.code(), 4);
        Due.is("14 stays behind code()", x.code(), 4);
        x.score();
        Due.is("14 stays behind score()", x.code(), 4);
        x.array(4, 1);
        Due.is("14 goes", x.code(), 0);
        x.about(1, 0);
        Due.is("14 of about", x.code(), 5);
        x.count(0);
        Due.is("14 goes behind count()", x.code(), 0);
        x.column(4, 1);
        Due.is("14 NONE is no code", x.code(), 0);
    }

    private static void widens() {
        String[] due = {
            "100000000", "010011110", "001111110", "000111110", "000011110", "000001110", "000000110",
            "000000010", "000000001"
        };
        DecisionArrays x = new DecisionArrays();
        for (int from = 0; from <= 8; from++) {
            for (int to = 0; to <= 8; to++) {
                Due.fine("15 " + from + " to " + to, x, x.widens(from, to), due[from].charAt(to) - '0');
            }
        }
        Due.fails("15 from 9", x, x.widens(9, 0), 9);
        Due.fails("15 from -1", x, x.widens(-1, 0), 9);
        Due.fails("15 to 9", x, x.widens(0, 9), 9);
        Due.fails("15 to -1", x, x.widens(0, -1), 9);
        Due.fails("15 both", x, x.widens(9, 9), 9);
    }

    /** Against Java's own casts, around every power of two and every place where halves are rounded. */
    private static void numbersWiden() {
        for (int bit = 0; bit < 64; bit++) {
            for (int low = 0; low < 64; low++) {
                DecisionArrays x = numbers();
                for (int near = -1; near <= 1; near++) {
                    long whole = (1L << bit) + (1L << low) + near;
                    wholeWidens(x, whole);
                    wholeWidens(x, -whole);
                    floatWidens(x, (int) (whole ^ (whole >>> 32)));
                }
            }
        }
        wholeWidens(numbers(), Long.MIN_VALUE);
        wholeWidens(numbers(), Long.MAX_VALUE);
        for (int bits = 0; bits < 300; bits++) {
            DecisionArrays x = numbers();
            floatWidens(x, bits);
            floatWidens(x, bits | 0x80000000);
            floatWidens(x, 0x7F7FFF00 + bits);
        }
    }

    /** A new object each time: one has 512 calls and no more. */
    private static DecisionArrays numbers() {
        DecisionArrays x = new DecisionArrays();
        x.array(5, 1);
        x.array(6, 1);
        x.array(7, 1);
        x.array(4, 1);
        return x;
    }

    private static void wholeWidens(DecisionArrays x, long whole) {
        x.write(0, 0, 0, 0, 0, 5, whole);
        Due.is("9 long to float " + whole, x.read(0, 0, 0, 0, 0, 6), Float.floatToIntBits((float) whole));
        Due.is("9 long to double " + whole, x.read(0, 0, 0, 0, 0, 7), Double.doubleToLongBits((double) whole));
        x.write(1, 0, 0, 0, 0, 5, whole);
        Due.is("10 long to float " + whole, x.read(1, 0, 0, 0, 0, 6), Float.floatToIntBits((float) whole));
        x.write(2, 0, 0, 0, 0, 5, whole);
        Due.is("10 long to double " + whole, x.read(2, 0, 0, 0, 0, 7), Double.doubleToLongBits((double) whole));
        int small = (int) whole;
        x.write(3, 0, 0, 0, 0, 4, small);
        Due.is("9 int to float " + small, x.read(3, 0, 0, 0, 0, 6), Float.floatToIntBits((float) small));
        Due.is("9 int to double " + small, x.read(3, 0, 0, 0, 0, 7), Double.doubleToLongBits((double) small));
    }

    private static void floatWidens(DecisionArrays x, int bits) {
        float value = Float.intBitsToFloat(bits);
        x.write(1, 0, 0, 0, 0, 6, bits);
        Due.is("9 float " + bits, x.read(1, 0, 0, 0, 0, 6), Float.floatToIntBits(value));
        Due.is("9 float to double " + bits, x.read(1, 0, 0, 0, 0, 7), Double.doubleToLongBits((double) value));
        x.write(2, 0, 0, 0, 0, 6, bits);
        Due.is("10 float to double " + bits, x.read(2, 0, 0, 0, 0, 7), Double.doubleToLongBits((double) value));
    }
}
