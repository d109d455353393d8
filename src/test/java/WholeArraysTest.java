import java.util.Arrays;

/** Promises 16 to 23: fill, move, copy, deep, sort, search, same, hash. */
public final class WholeArraysTest {
    public static void main(String[] args) {
        fill();
        fillCodes();
        move();
        moveThings();
        moveCodes();
        copy();
        deep();
        deepShared();
        sort();
        sortCodes();
        search();
        same();
        hash();
        sharedRowsEnd();
        Due.end();
    }

    private static void put(DecisionArrays x, int a, int kind, long... bits) {
        for (int i = 0; i < bits.length; i++) {
            Due.is("put", x.write(a, i, 0, 0, 0, kind, bits[i]), 0);
        }
    }

    private static void holds(String what, DecisionArrays x, int a, long... bits) {
        Due.is(what + ", length", x.about(a, 2), bits.length);
        int kind = x.about(a, 0);
        for (int i = 0; i < bits.length; i++) {
            Due.is(what + ", place " + i, x.read(a, i, 0, 0, 0, kind), bits[i]);
        }
    }

    private static void fill() {
        DecisionArrays x = new DecisionArrays();
        x.array(5, 4);
        Due.fine("16 two", x, x.fill(0, 1, 3, 5, -9), 2);
        holds("16 two", x, 0, 0, -9, -9, 0);
        Due.fine("16 all", x, x.fill(0, 0, 4, 2, 7), 4);
        holds("16 all", x, 0, 7, 7, 7, 7);
        Due.fine("16 none", x, x.fill(0, 4, 4, 5, 1), 0);
        Due.fine("16 none at 0", x, x.fill(0, 0, 0, 5, 1), 0);
        holds("16 none", x, 0, 7, 7, 7, 7);
        x.array(7, 2);
        Due.fine("16 widened", x, x.fill(1, 0, 2, 1, 65535), 2);
        holds("16 widened", x, 1, Double.doubleToLongBits(65535), Double.doubleToLongBits(65535));
        Due.fine("16 no-number", x, x.fill(1, 0, 1, 6, 0x7F800001L), 1);
        holds("16 no-number", x, 1, 0x7FF8000000000000L, Double.doubleToLongBits(65535));
        x.array(8, 2);
        Due.fine("16 any thing", x, x.fill(2, 0, 2, 8, 1000), 2);
        holds("16 any thing", x, 2, 1000, 1000);
    }

    private static void fillCodes() {
        DecisionArrays x = new DecisionArrays();
        x.array(4, 3);
        x.rows(0, 3);
        x.things(2, 3);
        Due.fails("16 no array", x, x.fill(3, 0, 1, 9, 0), 5);
        Due.fails("16 array -1", x, x.fill(-1, 0, 1, 4, 0), 5);
        Due.fails("16 writer 9", x, x.fill(1, 0, 1, 9, 0), 9);
        Due.fails("16 writer -1", x, x.fill(0, 0, 1, -1, 0), 9);
        Due.fails("16 bits", x, x.fill(0, 0, 1, 2, 128), 9);
        Due.fails("16 bits ahead of kind", x, x.fill(0, 0, 9, 0, 2), 9);
        Due.fails("16 kind", x, x.fill(0, 0, 1, 5, 0), 1);
        Due.fails("16 kind ahead of index", x, x.fill(0, 0, 9, 5, 0), 1);
        Due.fails("16 depth", x, x.fill(1, 0, 1, 4, 0), 1);
        Due.fails("16 from -1", x, x.fill(0, -1, 1, 4, 5), 2);
        Due.fails("16 to 4", x, x.fill(0, 0, 4, 4, 5), 2);
        Due.fails("16 from above to", x, x.fill(0, 2, 1, 4, 5), 2);
        Due.fails("16 far apart", x, x.fill(0, Integer.MIN_VALUE, Integer.MAX_VALUE, 4, 5), 2);
        x.pin(0, 1, 0, 0, 0, true);
        Due.fails("16 index ahead of pin", x, x.fill(0, 1, 4, 4, 5), 2);
        Due.fails("16 pinned", x, x.fill(0, 0, 3, 4, 5), 6);
        Due.fails("16 pinned, what is there", x, x.fill(0, 1, 2, 4, 0), 6);
        holds("16 nothing changed", x, 0, 0, 0, 0);
        Due.fine("16 beside it", x, x.fill(0, 2, 3, 4, 5), 1);
        Due.fine("16 before it", x, x.fill(0, 0, 1, 4, 6), 1);
        holds("16 around it", x, 0, 6, 0, 5);
        Due.fails("16 class", x, x.fill(2, 0, 3, 8, 8), 7);
        Due.fine("16 of the class", x, x.fill(2, 0, 3, 8, 9), 3);
        Due.fine("16 null", x, x.fill(2, 0, 1, 8, 0), 1);
        x.pin(2, 1, 0, 0, 0, true);
        Due.fails("16 pin ahead of class", x, x.fill(2, 0, 3, 8, 8), 6);
        holds("16 things", x, 2, 0, 9, 9);
    }

    private static void move() {
        DecisionArrays x = new DecisionArrays();
        x.array(3, 5);
        put(x, 0, 3, 1, 2, 3, 4, 5);
        x.array(3, 3);
        Due.fine("17 two", x, x.move(0, 3, 1, 1, 2), 2);
        holds("17 two", x, 1, 0, 4, 5);
        Due.fine("17 up", x, x.move(0, 0, 0, 1, 4), 4);
        holds("17 up", x, 0, 1, 1, 2, 3, 4);
        Due.fine("17 down", x, x.move(0, 2, 0, 0, 3), 3);
        holds("17 down", x, 0, 2, 3, 4, 3, 4);
        Due.fine("17 none at the end", x, x.move(0, 5, 1, 3, 0), 0);
        holds("17 none", x, 1, 0, 4, 5);
        x.rows(0, 2);
        x.rows(0, 2);
        x.setRow(2, 0, 0);
        x.setRow(2, 1, 1);
        Due.fine("17 rows", x, x.move(2, 0, 3, 0, 2), 2);
        Due.is("17 row 0", x.row(3, 0), 0);
        Due.is("17 row 1", x.row(3, 1), 1);
        x.setRow(2, 0, -1);
        Due.fine("17 a null row", x, x.move(2, 0, 3, 1, 1), 1);
        Due.is("17 is null", x.row(3, 1), -1);
    }

    private static void moveThings() {
        DecisionArrays x = new DecisionArrays();
        x.array(8, 5);
        put(x, 0, 8, 9, 0, 16, 10, 2);
        x.things(2, 5);
        Due.fails("17 class", x, x.move(0, 0, 1, 0, 5), 7);
        holds("17 those before have come", x, 1, 9, 0, 16, 0, 0);
        Due.fine("17 ahead of it", x, x.move(0, 0, 1, 2, 3), 3);
        holds("17 ahead of it", x, 1, 9, 0, 9, 0, 16);
        Due.fine("17 to any", x, x.move(1, 0, 0, 0, 5), 5);
        holds("17 to any", x, 0, 9, 0, 9, 0, 16);
        x.things(3, 2);
        Due.fails("17 another class", x, x.move(1, 0, 2, 0, 2), 7);
        Due.fine("17 a null to another class", x, x.move(1, 1, 2, 0, 1), 1);
        x.rows(1, 2);
        x.rows(2, 2);
        Due.fails("17 rows of another class", x, x.move(3, 0, 4, 0, 1), 1);
    }

    private static void moveCodes() {
        DecisionArrays x = new DecisionArrays();
        x.array(4, 3);
        x.array(4, 3);
        x.array(5, 3);
        x.rows(0, 3);
        put(x, 0, 4, 1, 2, 3);
        Due.fails("17 no array a", x, x.move(4, 0, 0, 0, 1), 5);
        Due.fails("17 no array b", x, x.move(0, 0, 4, 0, 1), 5);
        Due.fails("17 array ahead of length", x, x.move(-1, 0, 2, 0, -1), 5);
        Due.fails("17 kind", x, x.move(0, 0, 2, 0, 1), 1);
        Due.fails("17 kind ahead of length", x, x.move(0, 0, 2, 0, -1), 1);
        Due.fails("17 kind ahead of index", x, x.move(0, 9, 2, 0, 1), 1);
        Due.fails("17 depth", x, x.move(0, 0, 3, 0, 1), 1);
        Due.fails("17 length -1", x, x.move(0, 0, 1, 0, -1), 4);
        Due.fails("17 least length", x, x.move(0, 0, 1, 0, Integer.MIN_VALUE), 4);
        Due.fails("17 length ahead of index", x, x.move(0, 9, 1, 0, -1), 4);
        Due.fails("17 i -1", x, x.move(0, -1, 1, 0, 1), 2);
        Due.fails("17 k -1", x, x.move(0, 0, 1, -1, 1), 2);
        Due.fails("17 i beyond", x, x.move(0, 1, 1, 0, 3), 2);
        Due.fails("17 k beyond", x, x.move(0, 0, 1, 1, 3), 2);
        Due.fails("17 i 4, none", x, x.move(0, 4, 1, 0, 0), 2);
        Due.fails("17 greatest length", x, x.move(0, 1, 1, 1, Integer.MAX_VALUE), 2);
        Due.fails("17 greatest i", x, x.move(0, Integer.MAX_VALUE, 1, 1, 1), 2);
        x.pin(1, 1, 0, 0, 0, true);
        Due.fails("17 index ahead of pin", x, x.move(0, 0, 1, 1, 3), 2);
        Due.fails("17 pinned", x, x.move(0, 0, 1, 0, 3), 6);
        holds("17 nothing changed", x, 1, 0, 0, 0);
        Due.fine("17 beside it", x, x.move(0, 0, 1, 2, 1), 1);
        x.pin(0, 0, 0, 0, 0, true);
        Due.fine("17 from a pinned one", x, x.move(0, 0, 1, 0, 1), 1);
        holds("17 beside", x, 1, 1, 0, 1);
        x.things(1, 2);
        x.array(8, 2);
        put(x, 5, 8, 2, 2);
        x.pin(4, 1, 0, 0, 0, true);
        Due.fails("17 pin ahead of class", x, x.move(5, 0, 4, 0, 2), 6);
    }

    private static void copy() {
        DecisionArrays x = new DecisionArrays();
        x.things(2, 3);
        put(x, 0, 8, 9, 16, 23);
        x.pin(0, 0, 0, 0, 0, true);
        Due.fine("18 shorter", x, x.copy(0, 2), 1);
        holds("18 shorter", x, 1, 9, 16);
        Due.fine("18 longer", x, x.copy(0, 5), 2);
        holds("18 longer", x, 2, 9, 16, 23, 0, 0);
        Due.is("18 kind", x.about(2, 0), 8);
        Due.is("18 class", x.about(2, 3), 2);
        Due.is("18 no pins", x.about(2, 5), 0);
        Due.fine("18 is another one", x, x.write(2, 0, 0, 0, 0, 8, 2), 0);
        holds("18 is as it was", x, 0, 9, 16, 23);
        x.rows(0, 2);
        x.setRow(3, 0, 0);
        Due.fine("18 rows", x, x.copy(3, 3), 4);
        Due.is("18 depth", x.about(4, 1), 2);
        Due.is("18 the same row", x.row(4, 0), 0);
        Due.is("18 nulls", x.about(4, 4), 2);
        Due.fine("18 none", x, x.copy(3, 0), 5);
        Due.is("18 length", x.about(5, 2), 0);
        Due.fails("18 no array", x, x.copy(6, -1), 5);
        Due.fails("18 length -1", x, x.copy(0, -1), 4);
        Due.fails("18 length 201", x, x.copy(0, 201), 8);
        Due.is("18 count", x.count(0), 6);
    }

    private static void deep() {
        DecisionArrays x = new DecisionArrays();
        x.array(6, 2);
        put(x, 0, 6, 0x80000000, 0x7FC00000L);
        x.pin(0, 1, 0, 0, 0, true);
        x.rows(0, 3);
        x.setRow(1, 0, 0);
        x.setRow(1, 2, 0);
        x.rows(1, 2);
        x.setRow(2, 1, 1);
        Due.fine("19 deep", x, x.deep(2), 3);
        Due.is("19 count", x.count(0), 7);
        Due.is("19 null", x.row(3, 0), -1);
        Due.is("19 row", x.row(3, 1), 4);
        Due.is("19 first row of it", x.row(4, 0), 5);
        Due.is("19 null of it", x.row(4, 1), -1);
        Due.is("19 the shared one again", x.row(4, 2), 6);
        holds("19 bits", x, 6, -2147483648L, 0x7FC00000L);
        Due.is("19 no pins", x.about(6, 5), 0);
        Due.is("19 kind", x.about(3, 0), 6);
        Due.is("19 depth", x.about(3, 1), 3);
        Due.is("19 same", x.same(2, 3), 1);
        Due.fine("19 is another one", x, x.write(6, 0, 0, 0, 0, 6, 0), 0);
        holds("19 is as it was", x, 0, -2147483648L, 0x7FC00000L);
        Due.fails("19 no array", x, x.deep(7), 5);
        Due.fails("19 array -1", x, x.deep(-1), 5);
        DecisionArrays y = new DecisionArrays();
        y.things(5, 2);
        Due.fine("19 depth 1", y, y.deep(0), 1);
        Due.is("19 class", y.about(1, 3), 5);
        Due.is("19 length", y.about(1, 2), 2);
    }

    private static void deepShared() {
        DecisionArrays x = new DecisionArrays();
        x.array(0, 1);
        x.rows(0, 58);
        for (int i = 0; i < 58; i++) {
            x.setRow(1, i, 0);
        }
        Due.fails("19 61 arrays", x, x.deep(1), 8);
        Due.is("19 nothing made", x.count(0), 2);
        Due.is("19 no elements", x.count(1), 59);
        x.setRow(1, 57, -1);
        Due.fine("19 60 arrays", x, x.deep(1), 2);
        Due.is("19 sixty", x.count(0), 60);
        DecisionArrays y = new DecisionArrays();
        y.array(0, 200);
        y.rows(0, 19);
        for (int i = 0; i < 19; i++) {
            y.setRow(1, i, 0);
        }
        Due.fails("19 4000 elements", y, y.deep(1), 8);
        Due.is("19 nothing made of it", y.count(1), 219);
        y.setRow(1, 18, -1);
        y.array(0, 162);
        Due.fine("19 4000 elements in all", y, y.deep(1), 3);
        Due.is("19 all", y.count(1), 4000);
        DecisionArrays z = new DecisionArrays();
        z.grid(2, 4, 1, 2, 1, 1);
        Due.fine("19 depth 4", z, z.deep(0), 6);
        Due.is("19 depth 4, same", z.same(0, 6), 1);
        Due.is("19 depth 4, the last row", z.row(10, 0), 11);
        Due.is("19 depth 4, no nulls", z.about(10, 4), 0);
    }

    private static void sort() {
        DecisionArrays x = new DecisionArrays();
        x.array(4, 6);
        put(x, 0, 4, 5, -1, 5, 3, -7, 0);
        Due.fine("20 part", x, x.sort(0, 1, 5), 3);
        holds("20 part", x, 0, 5, -7, -1, 3, 5, 0);
        Due.fine("20 all", x, x.sort(0, 0, 6), 4);
        holds("20 all", x, 0, -7, -1, 0, 3, 5, 5);
        Due.fine("20 again", x, x.sort(0, 0, 6), 0);
        Due.fine("20 none", x, x.sort(0, 6, 6), 0);
        Due.fine("20 one", x, x.sort(0, 0, 1), 0);
        long[] doubles = {
            Double.doubleToLongBits(1), 0x7FF8000000000000L, Double.doubleToLongBits(-0.0), 0,
            Double.doubleToLongBits(-2), Double.doubleToLongBits(Double.POSITIVE_INFINITY),
            Double.doubleToLongBits(Double.NEGATIVE_INFINITY), 1, Long.MIN_VALUE + 1
        };
        x.array(7, 9);
        put(x, 1, 7, doubles);
        x.sort(1, 0, 9);
        double[] values = new double[9];
        for (int i = 0; i < 9; i++) {
            values[i] = Double.longBitsToDouble(doubles[i]);
        }
        Arrays.sort(values);
        for (int i = 0; i < 9; i++) {
            Due.is("20 double " + i, x.read(1, i, 0, 0, 0, 7), Double.doubleToLongBits(values[i]));
        }
        x.array(0, 4);
        put(x, 2, 0, 1, 0, 1, 0);
        Due.fine("20 booleans", x, x.sort(2, 0, 4), 2);
        holds("20 booleans", x, 2, 0, 0, 1, 1);
        x.array(8, 3);
        put(x, 3, 8, 1000, 0, 7);
        Due.fine("20 things", x, x.sort(3, 0, 3), 3);
        holds("20 things", x, 3, 0, 7, 1000);
        long200();
    }

    private static void long200() {
        DecisionArrays x = new DecisionArrays();
        x.array(5, 200);
        long[] values = new long[200];
        for (int i = 0; i < 200; i++) {
            values[i] = (i * 7919L % 211 - 100) * (Long.MAX_VALUE / 200);
            x.write(0, i, 0, 0, 0, 5, values[i]);
        }
        long[] sorted = values.clone();
        Arrays.sort(sorted);
        int changed = 0;
        for (int i = 0; i < 200; i++) {
            changed += sorted[i] == values[i] ? 0 : 1;
        }
        Due.fine("20 two hundred", x, x.sort(0, 0, 200), changed);
        holds("20 two hundred", x, 0, sorted);
    }

    private static void sortCodes() {
        DecisionArrays x = new DecisionArrays();
        x.array(4, 4);
        x.rows(0, 3);
        put(x, 0, 4, 4, 3, 2, 1);
        Due.fails("20 no array", x, x.sort(2, 0, 9), 5);
        Due.fails("20 depth", x, x.sort(1, 0, 3), 1);
        Due.fails("20 depth ahead of index", x, x.sort(1, 0, 4), 1);
        Due.fails("20 from -1", x, x.sort(0, -1, 2), 2);
        Due.fails("20 to 5", x, x.sort(0, 0, 5), 2);
        Due.fails("20 from above to", x, x.sort(0, 3, 2), 2);
        x.pin(0, 2, 0, 0, 0, true);
        Due.fails("20 index ahead of pin", x, x.sort(0, 0, 5), 2);
        Due.fails("20 pinned", x, x.sort(0, 0, 4), 6);
        Due.fails("20 pinned, alone", x, x.sort(0, 2, 3), 6);
        holds("20 nothing changed", x, 0, 4, 3, 2, 1);
        Due.fine("20 beside it", x, x.sort(0, 0, 2), 2);
        holds("20 beside it", x, 0, 3, 4, 2, 1);
    }

    private static void search() {
        DecisionArrays x = new DecisionArrays();
        x.array(4, 6);
        put(x, 0, 4, 1, 3, 3, 3, 8, 9);
        Due.fine("21 first middle", x, x.search(0, 3), 2);
        Due.fine("21 first", x, x.search(0, 1), 0);
        Due.fine("21 last", x, x.search(0, 9), 5);
        Due.fine("21 below all", x, x.search(0, 0), -100);
        Due.fine("21 between", x, x.search(0, 5), -104);
        Due.fine("21 above all", x, x.search(0, 10), -106);
        x.array(4, 5);
        put(x, 1, 4, 9, 1, 5, 2, 7);
        Due.fine("21 out of order", x, x.search(1, 9), -105);
        Due.fine("21 out of order, low", x, x.search(1, 1), -100);
        x.array(7, 4);
        put(x, 2, 7, Long.MIN_VALUE, 0, Double.doubleToLongBits(4), 0x7FF8000000000000L);
        Due.fine("21 - 0", x, x.search(2, Long.MIN_VALUE), 0);
        Due.fine("21 0", x, x.search(2, 0), 1);
        Due.fine("21 another no-number", x, x.search(2, -1), 3);
        Due.fine("21 below - 0", x, x.search(2, Double.doubleToLongBits(-1)), -100);
        x.array(4, 0);
        Due.fine("21 empty", x, x.search(3, 0), -100);
        x.things(2, 1);
        Due.fine("21 thing of another class", x, x.search(4, 10), -101);
        x.rows(0, 1);
        Due.fails("21 no array", x, x.search(6, 0), 5);
        Due.fails("21 bits", x, x.search(0, 1L << 31), 9);
        Due.fails("21 bits ahead of depth", x, x.search(5, 1L << 31), 9);
        Due.fails("21 depth", x, x.search(5, 0), 1);
        Due.fails("21 thing 1001", x, x.search(4, 1001), 9);
    }

    private static void same() {
        DecisionArrays x = new DecisionArrays();
        x.array(4, 2);
        x.array(4, 2);
        x.array(5, 2);
        x.array(4, 3);
        Due.fine("22 itself", x, x.same(0, 0), 1);
        Due.fine("22 alike", x, x.same(0, 1), 1);
        Due.fine("22 kind", x, x.same(0, 2), 0);
        Due.fine("22 length", x, x.same(0, 3), 0);
        x.write(1, 1, 0, 0, 0, 4, 1);
        Due.fine("22 bits", x, x.same(0, 1), 0);
        x.things(1, 1);
        x.things(2, 1);
        x.array(8, 1);
        Due.fine("22 not classes", x, x.same(4, 5), 1);
        Due.fine("22 no class", x, x.same(5, 6), 1);
        x.array(6, 1);
        x.array(6, 1);
        x.write(8, 0, 0, 0, 0, 6, Integer.MIN_VALUE);
        Due.fine("22 0 and - 0", x, x.same(7, 8), 0);
        x.fill(7, 0, 1, 6, -1);
        x.fill(8, 0, 1, 6, 0x7FC00000L);
        Due.fine("22 no-numbers", x, x.same(7, 8), 1);
        Due.fails("22 no a", x, x.same(9, 0), 5);
        Due.fails("22 no b", x, x.same(0, -1), 5);
        DecisionArrays y = new DecisionArrays();
        y.grid(1, 3, 2, 2, 1, 0);
        y.deep(0);
        Due.fine("22 deep", y, y.same(0, 7), 1);
        Due.fine("22 depth", y, y.same(0, 1), 0);
        y.write(7, 1, 1, 0, 0, 1, 1);
        Due.fine("22 deep bits", y, y.same(0, 7), 0);
        y.write(7, 1, 1, 0, 0, 1, 0);
        y.setRow(8, 1, -1);
        Due.fine("22 a null", y, y.same(0, 7), 0);
        Due.fine("22 a null here", y, y.same(7, 0), 0);
        y.setRow(1, 1, -1);
        Due.fine("22 two nulls", y, y.same(7, 0), 1);
        y.setRow(8, 1, 9);
        y.setRow(1, 1, 2);
        y.setRow(1, 0, 3);
        Due.fine("22 shared rows", y, y.same(0, 7), 1);
    }

    private static void hash() {
        DecisionArrays x = new DecisionArrays();
        Due.fails("23 no array", x, x.hash(0), 0, 5);
        x.array(0, 3);
        put(x, 0, 0, 1, 0, 1);
        Due.fine("23 booleans", x, x.hash(0), Arrays.hashCode(new boolean[] {true, false, true}));
        x.array(1, 2);
        put(x, 1, 1, 65535, 9);
        Due.fine("23 chars", x, x.hash(1), Arrays.hashCode(new char[] {65535, 9}));
        x.array(2, 2);
        put(x, 2, 2, -128, 9);
        Due.fine("23 bytes", x, x.hash(2), Arrays.hashCode(new byte[] {-128, 9}));
        x.array(3, 2);
        put(x, 3, 3, -32768, 9);
        Due.fine("23 shorts", x, x.hash(3), Arrays.hashCode(new short[] {-32768, 9}));
        x.array(4, 2);
        put(x, 4, 4, Integer.MIN_VALUE, 9);
        Due.fine("23 ints", x, x.hash(4), Arrays.hashCode(new int[] {Integer.MIN_VALUE, 9}));
        x.array(5, 3);
        put(x, 5, 5, Long.MIN_VALUE, -9, 1L << 40);
        Due.fine("23 longs", x, x.hash(5), Arrays.hashCode(new long[] {Long.MIN_VALUE, -9, 1L << 40}));
        x.array(6, 3);
        put(x, 6, 6, Float.floatToIntBits(-0f), Float.floatToIntBits(1.5f), -1);
        Due.fine("23 floats", x, x.hash(6), Arrays.hashCode(new float[] {-0f, 1.5f, Float.NaN}));
        x.array(7, 3);
        put(x, 7, 7, Long.MIN_VALUE, Double.doubleToLongBits(1.1), -1);
        Due.fine("23 doubles", x, x.hash(7), Arrays.hashCode(new double[] {-0d, 1.1, Double.NaN}));
        x.array(8, 2);
        put(x, 8, 8, 1000, 0);
        Due.fine("23 things", x, x.hash(8), Arrays.hashCode(new int[] {1000, 0}));
        x.rows(7, 3);
        x.setRow(9, 0, 7);
        x.setRow(9, 2, 7);
        double[] row = {-0d, 1.1, Double.NaN};
        Due.fine("23 rows", x, x.hash(9), Arrays.deepHashCode(new double[][] {row, null, row}));
        x.write(7, 0, 0, 0, 0, 7, 0);
        row[0] = 0;
        Due.fine("23 rows, changed", x, x.hash(9), Arrays.deepHashCode(new double[][] {row, null, row}));
        x.array(4, 0);
        Due.fine("23 empty", x, x.hash(10), 1);
        Due.fails("23 array -1", x, x.hash(-1), 0, 5);
    }

    /** 200 ROWS that are one, three times over: calls on them still end. */
    private static void sharedRowsEnd() {
        DecisionArrays x = new DecisionArrays();
        for (int family = 0; family < 2; family++) {
            int under = x.array(2, 200);
            for (int depth = 2; depth <= 4; depth++) {
                int above = x.rows(under, 200);
                x.setRow(above, 0, under);
                for (int done = 1; done < 200; done *= 2) {
                    x.move(above, 0, above, done, Math.min(done, 200 - done));
                }
                Due.is("17 doubled", x.about(above, 4), 0);
                under = above;
            }
        }
        Due.fine("22 shared rows end", x, x.same(3, 7), 1);
        int hash = x.hash(3);
        Due.fine("23 shared rows end", x, x.hash(7), hash);
        Due.fails("19 shared rows end", x, x.deep(3), 8);
        x.write(4, 199, 0, 0, 0, 2, 1);
        Due.fine("22 unlike at the end", x, x.same(3, 7), 0);
        Due.isTrue("23 another hash", x.hash(7) != hash);
    }
}
