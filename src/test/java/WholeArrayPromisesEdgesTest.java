/** Promises 16 to 23: the edges that each names, behind its sentence (what is refused: RefusedCallsTest). */
public final class WholeArrayPromisesEdgesTest {
    public static void main(String[] args) {
        depths();
        fillRange();
        fillValue();
        moveAtOnce();
        moveRange();
        moveRows();
        moveThings();
        copy();
        deep();
        deepBounds();
        deepestBounds();
        sort();
        searchMiddles();
        searchEdges();
        same();
        sameRows();
        hashOfKinds();
        hashOfRows();
        Due.end();
    }

    private static void depths() {
        Due.says("whole arrays (of DEPTH 1 where not told)");
        for (int a = 0; a < 4; a++) {
            DecisionArrays x = Make.ladder(4, 2);
            Due.is("fill", x.fill(a, 0, 2, 4, 0), a == 0 ? 2 : -1);
            Due.is("fill of none", x.fill(a, 0, 0, 4, 0), a == 0 ? 0 : -1);
            Due.is("sort", x.sort(a, 0, 2), a == 0 ? 0 : -1);
            Due.is("sort of none", x.sort(a, 0, 0), a == 0 ? 0 : -1);
            Due.is("search", x.search(a, 0), a == 0 ? 0 : -1);
            Due.fine("move", x, x.move(a, 0, a, 1, 1), 1);
            Due.fine("same", x, x.same(a, a), 1);
            x.hash(a);
            Due.is("hash", x.code(), 0);
            Due.fine("copy", x, x.copy(a, 2), 4);
            Due.fine("deep", x, x.deep(a), 5);
        }
    }

    private static void fillRange() {
        Due.says("2 (0 up to the length, from not above to), 6, 7.");
        for (int from = -1; from <= 4; from++) {
            for (int to = -1; to <= 4; to++) {
                DecisionArrays x = Make.of(4, 0, 0, 0);
                boolean there = from >= 0 && to <= 3 && from <= to;
                Due.is("from " + from + " to " + to, x.fill(0, from, to, 4, 8), there ? to - from : -2);
                for (int i = 0; i < 3; i++) {
                    Due.is("place " + i, Make.at(x, 0, i), there && i >= from && i < to ? 8 : 0);
                }
            }
        }
        DecisionArrays x = Make.of(4);
        Due.fine("nothing of nothing", x, x.fill(0, 0, 0, 4, 8), 0);
        Due.fails("one of nothing", x, x.fill(0, 0, 1, 4, 8), 2);
        int all = Integer.MAX_VALUE;
        Due.fails("as far as can be told", x, x.fill(0, Integer.MIN_VALUE, all, 4, 8), 2);
        Due.fails("both as far", x, x.fill(0, all, all, 4, 8), 2);
        DecisionArrays y = Make.of(4, new long[200]);
        Due.fine("all 200", y, y.fill(0, 0, 200, 4, 8), 200);
        Due.fine("the last", y, y.read(0, 199, 0, 0, 0, 4), 8);
    }

    private static void fillValue() {
        Due.says("Elements from .. to - 1 become a value of a WRITER kind: how many.");
        DecisionArrays x = Make.of(6, 0, 0);
        Due.fine("a whole", x, x.fill(0, 0, 2, 5, (1L << 24) + 1), 2);
        Make.holds("the nearest", x, 0, Make.f(0x1p24), Make.f(0x1p24));
        Due.fails("a double", x, x.fill(0, 0, 2, 7, 0), 1);
        x.things(4, 2);
        Due.fine("a thing", x, x.fill(1, 0, 2, 8, 4), 2);
        Due.fine("null", x, x.fill(1, 1, 2, 8, 0), 1);
        Due.fails("of another class", x, x.fill(1, 0, 2, 8, 5), 7);
        Make.holds("nothing changed", x, 1, 4, 0);
        Due.fine("what is there counts", x, x.fill(1, 0, 1, 8, 4), 1);
    }

    private static void moveAtOnce() {
        Due.says("n elements of array a from place i on come to array b from place k on, as if all at once");
        for (int i = 0; i <= 5; i++) {
            for (int k = 0; k <= 5; k++) {
                for (int n = 0; n <= 5; n++) {
                    DecisionArrays x = Make.of(4, 10, 11, 12, 13, 14);
                    boolean there = i + n <= 5 && k + n <= 5;
                    Due.is("move " + i + " " + k + " " + n, x.move(0, i, 0, k, n), there ? n : -2);
                    for (int q = 0; q < 5; q++) {
                        boolean hit = there && q >= k && q < k + n;
                        Due.is("place " + q, Make.at(x, 0, q), hit ? 10 + i + q - k : 10 + q);
                    }
                }
            }
        }
    }

    private static void moveRange() {
        Due.says("4 (n below 0), 2, 6 (one of the n places), 7 (the first THING that b does not take: those before it "
            + "have come).");
        DecisionArrays x = Make.of(4, 1, 2, 3);
        Make.add(x, 4, 7, 8);
        int all = Integer.MAX_VALUE;
        int least = Integer.MIN_VALUE;
        Due.fails("n -1", x, x.move(0, 0, 1, 0, -1), 4);
        Due.fails("least n", x, x.move(0, 0, 1, 0, least), 4);
        Due.fails("greatest n", x, x.move(0, 1, 1, 1, all), 2);
        Due.fails("greatest i", x, x.move(0, all, 1, 0, 1), 2);
        Due.fails("greatest k", x, x.move(0, 0, 1, all, 1), 2);
        Due.fails("greatest i, none", x, x.move(0, all, 1, 0, 0), 2);
        Due.fails("all greatest", x, x.move(0, all, 1, all, all), 2);
        Due.fails("least i", x, x.move(0, least, 1, 0, 1), 2);
        Due.fails("least k", x, x.move(0, 0, 1, least, 1), 2);
        Due.fails("i -1, none", x, x.move(0, -1, 1, 0, 0), 2);
        Due.fails("a too short", x, x.move(0, 2, 1, 0, 2), 2);
        Due.fails("b too short", x, x.move(0, 0, 1, 1, 2), 2);
        Due.fine("none at both ends", x, x.move(0, 3, 1, 2, 0), 0);
        Make.holds("nothing has come", x, 1, 7, 8);
        Due.fine("up to the end", x, x.move(0, 1, 1, 0, 2), 2);
        Make.holds("two have come", x, 1, 2, 3);
        x.pin(1, 0, 0, 0, 0, true);
        Due.fails("onto a pinned one", x, x.move(0, 0, 1, 0, 1), 6);
        Due.fine("behind it", x, x.move(0, 0, 1, 1, 1), 1);
        Due.fine("away from it", x, x.move(1, 0, 0, 0, 1), 1);
        Make.holds("behind it", x, 1, 2, 1);
        x.pin(1, 1, 0, 0, 0, true);
        Due.fine("none onto pinned ones", x, x.move(0, 0, 1, 0, 0), 0);
    }

    private static void moveRows() {
        Due.says("(any DEPTH: ROWS likewise): n. 5, 1 (KIND or DEPTH is another one; of ROWS also the CLASS)");
        DecisionArrays x = Make.ladder(4, 2);
        int other = x.copy(1, 3);
        Due.fine("rows", x, x.move(1, 0, other, 1, 2), 2);
        Due.fine("null has come", x, x.row(other, 1), -1);
        Due.fine("the row has come", x, x.row(other, 2), 0);
        Due.fine("within one", x, x.move(other, 1, other, 0, 2), 2);
        Due.fine("null", x, x.row(other, 0), -1);
        Due.fine("the row", x, x.row(other, 1), 0);
        Due.fine("the row is there too", x, x.row(other, 2), 0);
        Due.fails("another depth", x, x.move(1, 0, 2, 0, 0), 1);
        Due.fails("values to rows", x, x.move(0, 0, 1, 0, 0), 1);
        x.things(1, 1);
        x.things(2, 1);
        x.array(8, 1);
        int first = x.rows(5, 1);
        int second = x.rows(6, 1);
        int any = x.rows(7, 1);
        Due.fails("another class", x, x.move(first, 0, second, 0, 1), 1);
        Due.fails("any class", x, x.move(first, 0, any, 0, 0), 1);
        Due.fails("from any class", x, x.move(any, 0, first, 0, 1), 1);
        x.setRow(second, 0, 6);
        Due.fine("the number of a row has no class", x, x.move(second, 0, x.rows(6, 1), 0, 1), 1);
        Due.fine("things of depth 1, another class", x, x.move(5, 0, 6, 0, 1), 1);
        Due.fine("things of depth 1, any class", x, x.move(7, 0, 6, 0, 1), 1);
    }

    private static void moveThings() {
        Due.says("7 (the first THING that b does not take: those before it have come).");
        for (int bad = 0; bad <= 4; bad++) {
            DecisionArrays x = Make.of(8, 6, 0, 13, 20);
            if (bad < 4) {
                x.write(0, bad, 0, 0, 0, 8, 7);
            }
            x.things(6, 5);
            x.fill(1, 0, 5, 8, 1000);
            Due.is("bad " + bad, x.move(0, 0, 1, 1, 4), bad < 4 ? -7 : 4);
            Due.is("code", x.code(), bad < 4 ? 7 : 0);
            long[] due = {6, 0, 13, 20};
            Due.is("not before", Make.at(x, 1, 0), 1000);
            for (int q = 0; q < 4; q++) {
                Due.is("place " + q, Make.at(x, 1, q + 1), q < bad ? due[q] : 1000);
            }
        }
    }

    private static void copy() {
        Due.says("A new array like a (KIND, DEPTH, CLASS; of any DEPTH), m long, with a's first elements, others as at "
            + "first; the same ROWS: its number. 5, 4, 8. PINS are not taken over.");
        DecisionArrays x = new DecisionArrays();
        x.things(1, 2);
        Make.put(x, 0, 8, 15);
        x.pin(0, 0, 0, 0, 0, true);
        Due.fine("none", x, x.copy(0, 0), 1);
        Make.holds("none", x, 1);
        Due.fine("one less", x, x.copy(0, 1), 2);
        Make.holds("one less", x, 2, 8);
        Due.fine("as many", x, x.copy(0, 2), 3);
        Make.holds("as many", x, 3, 8, 15);
        Due.fine("one more", x, x.copy(0, 3), 4);
        Make.holds("one more", x, 4, 8, 15, 0);
        Due.fine("200", x, x.copy(0, 200), 5);
        Due.fine("the last", x, x.read(5, 199, 0, 0, 0, 8), 0);
        Due.fine("its class", x, x.about(5, 3), 1);
        Due.fine("no pins", x, x.about(5, 5), 0);
        Due.fine("a's pin stays", x, x.about(0, 5), 1);
        Due.fine("of a copy of none", x, x.copy(1, 1), 6);
        Make.holds("as at first", x, 6, 0);
        DecisionArrays y = Make.ladder(4, 1);
        for (int a = 1; a < 4; a++) {
            int made = y.copy(a, 3);
            Due.fine("its depth", y, y.about(made, 1), a + 1);
            Due.fine("null", y, y.row(made, 0), -1);
            Due.fine("the same row", y, y.row(made, 1), a - 1);
            Due.fine("null at first", y, y.row(made, 2), -1);
        }
        Due.fine("nothing else is made", y, y.count(0), 7);
    }

    private static void deep() {
        Due.says("A new array like a with new ROWS throughout (one for each place, also of a ROW that is in two), null "
            + "ones null, numbered as in grid(): its number.");
        DecisionArrays x = Make.ladder(5, 1);
        x.write(0, 0, 0, 0, 0, 5, -9);
        x.setRow(2, 0, 1);
        Due.fine("deep", x, x.deep(3), 4);
        int[][] due = {{4, 0, -1}, {4, 1, 5}, {5, 0, 6}, {6, 0, -1}, {6, 1, 7}, {5, 1, 8}, {8, 0, -1}, {8, 1, 9}};
        for (int[] row : due) {
            Due.fine("row " + row[1] + " of " + row[0], x, x.row(row[0], row[1]), row[2]);
        }
        Due.fine("ten", x, x.count(0), 10);
        Make.holds("its first bottom", x, 7, -9);
        Make.holds("its second bottom", x, 9, -9);
        x.write(7, 0, 0, 0, 0, 5, 1);
        Make.holds("they are two", x, 9, -9);
        Make.holds("a's is another", x, 0, -9);
        DecisionArrays y = Make.of(4, 3, 4);
        y.pin(0, 0, 0, 0, 0, true);
        Due.fine("depth 1", y, y.deep(0), 1);
        Make.holds("depth 1", y, 1, 3, 4);
        Due.fine("no pins", y, y.about(1, 5), 0);
        y.rows(0, 0);
        Due.fine("no rows", y, y.deep(2), 3);
        Due.fine("of depth 2", y, y.about(3, 1), 2);
        y.rows(0, 2);
        Due.fine("all null", y, y.deep(4), 5);
        Due.fine("still null", y, y.about(5, 4), 2);
        Due.fine("no rows are made", y, y.count(0), 6);
        y.things(6, 1);
        Due.fine("its class", y, y.about(y.deep(y.rows(6, 1)), 3), 6);
    }

    private static void deepBounds() {
        Due.says("null ones null, numbered as in grid(): its number. 5, 8 (nothing is made).");
        DecisionArrays x = Make.of(4, 1);
        x.rows(0, 58);
        x.setRow(1, 0, 0);
        for (int done = 1; done < 58; done *= 2) {
            x.move(1, 0, 1, done, Math.min(done, 58 - done));
        }
        Due.fine("58 times one row", x, x.about(1, 4), 0);
        Due.fails("61 arrays", x, x.deep(1), 8);
        Due.fine("nothing is made", x, x.count(0), 2);
        x.setRow(1, 0, -1);
        Due.fine("60 arrays", x, x.deep(1), 2);
        Due.fine("60", x, x.count(0), 60);
        DecisionArrays y = Make.of(4, new long[200]);
        y.rows(0, 18);
        y.setRow(1, 0, 0);
        for (int done = 1; done < 18; done *= 2) {
            y.move(1, 0, 1, done, Math.min(done, 18 - done));
        }
        Due.fine("218 elements", y, y.count(1), 218);
        y.array(4, 165);
        Due.fails("4001 elements", y, y.deep(1), 8);
        Due.fine("none is made", y, y.count(1), 383);
        Due.fine("no array is made", y, y.count(0), 3);
        DecisionArrays z = Make.of(4, new long[200]);
        z.rows(0, 18);
        z.setRow(1, 0, 0);
        for (int done = 1; done < 18; done *= 2) {
            z.move(1, 0, 1, done, Math.min(done, 18 - done));
        }
        z.array(4, 164);
        Due.fine("4000 elements", z, z.deep(1), 3);
        Due.fine("4000", z, z.count(1), 4000);
    }

    private static void deepestBounds() {
        Due.says("null ones null, numbered as in grid(): its number. 5, 8 (nothing is made).");
        DecisionArrays x = new DecisionArrays();
        x.grid(4, 4, 1, 1, 10, 200);
        Due.fine("2012 elements", x, x.count(1), 2012);
        Due.fails("4024 elements", x, x.deep(0), 8);
        Due.fine("nothing is made", x, x.count(1), 2012);
        Due.fine("no array is made", x, x.count(0), 13);
        x.setRow(2, 0, -1);
        Due.fine("3824 elements", x, x.deep(0), 13);
        Due.fine("3824", x, x.count(1), 3824);
        DecisionArrays y = new DecisionArrays();
        y.grid(4, 4, 1, 1, 28, 1);
        Due.fails("62 arrays", y, y.deep(0), 8);
        Due.fine("no array is made", y, y.count(0), 31);
        y.setRow(2, 27, -1);
        Due.fails("61 arrays", y, y.deep(0), 8);
        y.setRow(2, 26, -1);
        Due.fine("60 arrays", y, y.deep(0), 31);
        Due.fine("60", y, y.count(0), 60);
        DecisionArrays z = Make.of(4, new long[150]);
        for (int turn = 1; turn <= 25; turn++) {
            Due.fine("150 more", z, z.deep(0), turn);
        }
        Due.fine("3900", z, z.count(1), 3900);
        Due.fails("beyond 4000", z, z.deep(0), 8);
    }

    private static void sort() {
        Due.says("Elements from .. to - 1 are put in order: how many places have other BITS than before.");
        for (int from = -1; from <= 5; from++) {
            for (int to = -1; to <= 5; to++) {
                DecisionArrays x = Make.of(4, 4, 3, 2, 1);
                boolean there = from >= 0 && to <= 4 && from <= to;
                int n = to - from;
                Due.is("from " + from + " to " + to, x.sort(0, from, to), there ? n - n % 2 : -2);
                for (int i = 0; i < 4; i++) {
                    boolean hit = there && i >= from && i < to;
                    Due.is("place " + i, Make.at(x, 0, i), hit ? 4 - (from + to - 1 - i) : 4 - i);
                }
            }
        }
        DecisionArrays x = Make.of(7, 0, Long.MIN_VALUE, 0);
        Due.fine("0 and - 0 are other BITS", x, x.sort(0, 0, 3), 2);
        Make.holds("- 0 first", x, 0, Long.MIN_VALUE, 0, 0);
        Due.fine("in order already", x, x.sort(0, 0, 3), 0);
        DecisionArrays y = Make.of(4, 7, 7, 7, 1);
        Due.fine("like ones", y, y.sort(0, 0, 4), 2);
        Make.holds("like ones", y, 0, 1, 7, 7, 7);
        Due.fine("nothing", y, y.sort(y.array(4, 0), 0, 0), 0);
    }

    private static void searchMiddles() {
        Due.says("by halving, low and high being 0 and the length less 1 at first, the middle (low + high) / 2: at the "
            + "first middle that is alike in order; else -100 less where it would be.");
        for (int n = 0; n <= 9; n++) {
            DecisionArrays x = new DecisionArrays();
            x.array(4, n);
            for (int i = 0; i < n; i++) {
                x.write(0, i, 0, 0, 0, 4, 10 * i);
            }
            for (int i = 0; i < n; i++) {
                Due.fine("of " + n, x, x.search(0, 10 * i), i);
                Due.fine("below " + i + " of " + n, x, x.search(0, 10 * i - 1), -100 - i);
            }
            Due.fine("above all " + n, x, x.search(0, 999), -100 - n);
        }
        for (int n = 1; n <= 9; n++) {
            DecisionArrays x = new DecisionArrays();
            x.array(4, n);
            Due.fine("all alike, " + n, x, x.search(0, 0), (n - 1) / 2);
        }
        DecisionArrays x = Make.of(4, 1, 5, 5, 9);
        Due.fine("the middle of four", x, x.search(0, 5), 1);
        DecisionArrays y = Make.of(4, 9, 5, 1);
        Due.fine("out of order, the middle", y, y.search(0, 5), 1);
        Due.fine("out of order, not met", y, y.search(0, 9), -103);
        Due.fine("out of order, not met below", y, y.search(0, 1), -100);
    }

    private static void searchEdges() {
        Due.says("Where a value of the array's KIND stands");
        DecisionArrays x = Make.of(7, 0xFFF0000000000000L, Long.MIN_VALUE, 0, 0x7FF0000000000000L, Make.NO_DOUBLE);
        Due.fine("endless below 0", x, x.search(0, 0xFFF0000000000000L), 0);
        Due.fine("- 0", x, x.search(0, Long.MIN_VALUE), 1);
        Due.fine("0", x, x.search(0, 0), 2);
        Due.fine("endless", x, x.search(0, 0x7FF0000000000000L), 3);
        Due.fine("the no-number", x, x.search(0, Make.NO_DOUBLE), 4);
        Due.fine("just above 0", x, x.search(0, 1), -103);
        Due.fine("just below - 0", x, x.search(0, 0x8000000000000001L), -101);
        x.things(2, 2);
        Make.put(x, 1, 0, 2);
        Due.fine("null", x, x.search(1, 0), 0);
        Due.fine("a thing of another class", x, x.search(1, 1000), -102);
        DecisionArrays y = Make.of(5, new long[200]);
        y.write(0, 199, 0, 0, 0, 5, Long.MAX_VALUE);
        Due.fine("the last of 200", y, y.search(0, Long.MAX_VALUE), 199);
        y.write(0, 199, 0, 0, 0, 5, 1);
        Due.fine("above all 200", y, y.search(0, Long.MAX_VALUE), -300);
        Due.fine("below all 200", y, y.search(0, Long.MIN_VALUE), -100);
    }

    private static void same() {
        Due.says("Whether two arrays are the same all through: KIND, DEPTH, lengths, BITS, nulls (not CLASSES): 1, 0. 5.");
        DecisionArrays x = new DecisionArrays();
        for (int kind = 0; kind <= 8; kind++) {
            x.array(kind, 0);
        }
        for (int a = 0; a <= 8; a++) {
            for (int b = 0; b <= 8; b++) {
                Due.fine("empty ones of kinds " + a + ", " + b, x, x.same(a, b), a == b ? 1 : 0);
            }
        }
        DecisionArrays y = Make.of(7, 0, 1);
        Make.add(y, 7, 0, 1, 0);
        Make.add(y, 7, Long.MIN_VALUE, 1);
        Make.add(y, 7, 0, 1);
        Due.fine("lengths", y, y.same(0, 1), 0);
        Due.fine("0 and - 0", y, y.same(0, 2), 0);
        Due.fine("alike", y, y.same(0, 3), 1);
        y.pin(0, 0, 0, 0, 0, true);
        Due.fine("not pins", y, y.same(0, 3), 1);
        Make.add(y, 7, -1);
        Make.add(y, 7, Make.NO_DOUBLE);
        Due.fine("no-numbers", y, y.same(4, 5), 1);
        y.rows(0, 1);
        y.rows(0, 1);
        Due.fine("nulls", y, y.same(6, 7), 1);
        y.setRow(6, 0, 0);
        Due.fine("null and a row", y, y.same(6, 7), 0);
        Due.fine("a row and null", y, y.same(7, 6), 0);
        y.setRow(7, 0, 3);
        Due.fine("rows that are the same", y, y.same(6, 7), 1);
        y.setRow(7, 0, 2);
        Due.fine("rows that are not", y, y.same(6, 7), 0);
        Due.fine("depths", y, y.same(y.rows(0, 0), y.rows(6, 0)), 0);
        DecisionArrays z = new DecisionArrays();
        z.things(1, 1);
        z.things(2, 1);
        z.rows(0, 1);
        z.rows(1, 1);
        z.setRow(2, 0, 0);
        z.setRow(3, 0, 1);
        Due.fine("not classes", z, z.same(0, 1), 1);
        Due.fine("not classes of rows", z, z.same(2, 3), 1);
    }

    /** Two ROWS each of ten arrays, every way: what was found of one pair says nothing of another. */
    private static void sameRows() {
        Due.says("Whether two arrays are the same all through");
        for (int a = 0; a < 10; a++) {
            for (int b = 0; b < 10; b++) {
                DecisionArrays x = new DecisionArrays();
                for (int q = 0; q < 10; q++) {
                    x.grid(4, 1, 1, 0, 0, 0);
                    x.write(q, 0, 0, 0, 0, 4, q % 3);
                }
                x.rows(0, 2);
                x.rows(0, 2);
                x.setRow(10, 0, a);
                x.setRow(11, 0, b);
                for (int cd = 0; cd < 100; cd++) {
                    int c = cd / 10;
                    int d = cd % 10;
                    x.setRow(10, 1, c);
                    x.setRow(11, 1, d);
                    boolean due = a % 3 == b % 3 && c % 3 == d % 3;
                    Due.is("rows " + a + " " + c + " and " + b + " " + d, x.same(10, 11), due ? 1 : 0);
                }
            }
        }
        DecisionArrays x = new DecisionArrays();
        x.grid(4, 4, 1, 1, 2, 2);
        x.write(0, 0, 0, 1, 1, 4, 9);
        int other = x.deep(0);
        Due.fine("depth 4", x, x.same(0, other), 1);
        x.write(other, 0, 0, 1, 1, 4, 8);
        Due.fine("depth 4, the last is another", x, x.same(0, other), 0);
        Make.add(x, 4, 1, 2, 3);
        int last = Make.add(x, 4, 1, 2, 4);
        Due.fine("the last of three", x, x.same(last - 1, last), 0);
        x.write(last, 2, 0, 0, 0, 4, 3);
        Due.fine("all three", x, x.same(last - 1, last), 1);
    }

    private static void hashOfKinds() {
        Due.says("A HASH: 1 at first; for each element 31 times it and h: of booleans 1231 and 1237 (not), of chars to "
            + "ints and floats the BITS, of longs and doubles both halves joined (xor), of THINGS their numbers, of ROWS "
            + "their HASH, null 0 (of 32 bits, wrapping). 0 with a code: 5.");
        hashIs(31 + 1231, 0, 1);
        hashIs(31 + 1237, 0, 0);
        hashIs(31 + 65535, 1, 65535);
        hashIs(31 - 128, 2, -128);
        hashIs(31 - 32768, 3, -32768);
        hashIs(31 + Integer.MIN_VALUE, 4, Integer.MIN_VALUE);
        hashIs(31 + Integer.MAX_VALUE, 4, Integer.MAX_VALUE);
        hashIs(31, 5, -1);
        hashIs(31 + Integer.MIN_VALUE, 5, Long.MIN_VALUE);
        hashIs(31 + 5, 5, (6L << 32) + 3);
        hashIs(31 + Integer.MIN_VALUE, 6, Integer.MIN_VALUE);
        hashIs(31 + 0x7FC00000, 6, -1);
        hashIs(31 + 0x7FF80000, 7, -1);
        hashIs(31 + Integer.MIN_VALUE, 7, Long.MIN_VALUE);
        hashIs(31 + 1000, 8, 1000);
        hashIs(31, 8, 0);
        hashIs(1, 4);
        hashIs(961 + 31 * 2 + 3, 4, 2, 3);
        DecisionArrays x = Make.of(0, new long[200]);
        int due = 1;
        for (int i = 0; i < 200; i++) {
            due = 31 * due + 1237;
        }
        Due.fine("wraps", x, x.hash(0), due);
    }

    private static void hashIs(int due, int kind, long... bits) {
        DecisionArrays x = Make.of(kind, bits);
        Due.fine("hash of kind " + kind, x, x.hash(0), due);
    }

    private static void hashOfRows() {
        Due.says("of ROWS their HASH, null 0 (of 32 bits, wrapping).");
        DecisionArrays x = Make.ladder(4, 1);
        int bottom = 31;
        int second = 961 + bottom;
        int third = 961 + second;
        Due.fine("depth 1", x, x.hash(0), bottom);
        Due.fine("depth 2", x, x.hash(1), second);
        Due.fine("depth 3", x, x.hash(2), third);
        Due.fine("depth 4", x, x.hash(3), 961 + third);
        x.write(0, 0, 0, 0, 0, 4, 5);
        Due.fine("it has changed below", x, x.hash(3), 961 * 3 + bottom + 5);
        x.setRow(1, 0, 0);
        Due.fine("one row twice", x, x.hash(1), 961 + 31 * 36 + 36);
        Due.fine("no rows", x, x.hash(x.rows(0, 0)), 1);
        DecisionArrays y = Make.of(4, 1, 2);
        Make.add(y, 4, 1, 3);
        Due.fine("same ahead of hash", y, y.same(0, 1), 0);
        Due.fine("hash", y, y.hash(0), 961 + 31 + 2);
        Due.fine("same behind hash", y, y.same(0, 1), 0);
        DecisionArrays z = Make.of(4, 1, 2);
        Make.add(z, 4, 1, 3);
        Due.fine("hash ahead of same", z, z.hash(1), 961 + 31 + 3);
        Due.fine("same", z, z.same(0, 1), 0);
        Due.fine("hash behind same", z, z.hash(1), 961 + 31 + 3);
    }
}
