/** The edges that "Terms" names for DECISIONS, PINS, RULES, THE BEST CHOICE and MARKS, each behind its sentence. */
public final class ChoicesEdgesTest {
    public static void main(String[] args) {
        decisions();
        candidates();
        placesStay();
        pinned();
        pinnedRows();
        rules();
        scoreIsWide();
        sum();
        unlike();
        rising();
        counted();
        changes();
        far();
        amounts();
        leastScore();
        firstOfSeveral();
        marks();
        Due.end();
    }

    private static void decisions() {
        Due.says("DECISIONS, 24 at most, are elements, each with up to 16 CANDIDATES");
        DecisionArrays x = Make.of(4, new long[25]);
        for (int d = 0; d < 24; d++) {
            Due.fine("decision " + d, x, x.decide(0, d, 0, 0, 0), d);
        }
        Due.fails("the 25th", x, x.decide(0, 24, 0, 0, 0), 8);
        Due.fine("one that is", x, x.decide(0, 23, 0, 0, 0), 23);
        Due.fine("24", x, x.count(2), 24);
        for (int c = 1; c <= 16; c++) {
            Due.fine("candidate " + c, x, x.candidate(23, c), c);
        }
        Due.fails("the 17th", x, x.candidate(23, 17), 8);
        Due.fails("the 17th by a span", x, x.span(23, 17, 17, 1), 8);
        Due.fine("16", x, x.decision(23, 2), 16);
        Due.fine("the last one", x, x.candidateOf(23, 15), 16);
        Due.fails("no 17th", x, x.candidateOf(23, 16), 0, 9);
        Due.fine("none of the one before", x, x.decision(22, 2), 0);
        Due.fine("16 of the first too", x, x.span(0, 101, 116, 1), 16);
        Due.fine("its last one", x, x.candidateOf(0, 15), 116);
        Due.fine("none of the next", x, x.decision(1, 2), 0);
    }

    private static void candidates() {
        Due.says("(BITS of its KIND, in the order in which they came, unlike ones; the no-number is none, "
            + "a THING must be of the array's CLASS, or null)");
        DecisionArrays x = Make.of(7, 0);
        x.decide(0, 0, 0, 0, 0);
        Due.fine("0", x, x.candidate(0, 0), 1);
        Due.fine("- 0 is unlike it", x, x.candidate(0, Long.MIN_VALUE), 2);
        Due.fails("0 again", x, x.candidate(0, 0), 9);
        Due.fails("- 0 again", x, x.candidate(0, Long.MIN_VALUE), 9);
        Due.fine("endless", x, x.candidate(0, 0x7FF0000000000000L), 3);
        Due.fails("the no-number", x, x.candidate(0, Make.NO_DOUBLE), 9);
        Due.fails("another no-number", x, x.candidate(0, 0x7FF0000000000001L), 9);
        Due.fine("- 5", x, x.candidate(0, Make.d(-5)), 4);
        long[] due = {0, Long.MIN_VALUE, 0x7FF0000000000000L, Make.d(-5)};
        for (int c = 0; c < 4; c++) {
            Due.fine("as they came, " + c, x, x.candidateOf(0, c), due[c]);
        }
        x.things(6, 1);
        x.decide(1, 0, 0, 0, 0);
        Due.fine("a thing of the class", x, x.candidate(1, 1000), 1);
        Due.fine("null", x, x.candidate(1, 0), 2);
        Due.fails("null again", x, x.candidate(1, 0), 9);
        Due.fails("of another class", x, x.candidate(1, 7), 7);
        Due.fails("none", x, x.candidate(1, 1001), 9);
        x.array(8, 1);
        x.decide(2, 0, 0, 0, 0);
        Due.fine("any thing", x, x.candidate(2, 7), 1);
        Due.fine("any other thing", x, x.candidate(2, 1000), 2);
    }

    private static void placesStay() {
        Due.says("A DECISION stands for the element at its place in an array of DEPTH 1, whatever becomes of ROWS.");
        DecisionArrays x = new DecisionArrays();
        x.grid(4, 2, 2, 3, 0, 0);
        x.decide(0, 0, 2, 0, 0);
        x.candidate(0, 9);
        x.setRow(0, 0, 2);
        Due.fine("its array", x, x.decision(0, 0), 1);
        Due.fine("its place", x, x.decision(0, 1), 2);
        Due.fine("the path leads to another", x, x.decide(0, 0, 2, 0, 0), 1);
        x.setRow(0, 1, -1);
        x.setRow(0, 0, -1);
        Due.fine("choose", x, x.choose(0, 0), 0);
        Make.holds("it is chosen", x, 1, 0, 0, 9);
        Make.holds("the other is as it was", x, 2, 0, 0, 0);
        x.write(1, 2, 0, 0, 0, 4, 1);
        x.best();
        Make.holds("the best is made there too", x, 1, 0, 0, 9);
    }

    private static void pinned() {
        Due.says("PINNED elements (of arrays of DEPTH 1) stay as they are: whatever would change one has code 6, "
            + "also those that would write what is there.");
        DecisionArrays x = Make.of(4, 3, 5, 4);
        Make.add(x, 4, 3, 5, 4);
        x.decide(0, 1, 0, 0, 0);
        x.span(0, 5, 6, 1);
        x.pin(0, 1, 0, 0, 0, true);
        for (long bits : new long[] {5, 6}) {
            Due.fails("write " + bits, x, x.write(0, 1, 0, 0, 0, 4, bits), 6);
            Due.fails("fill " + bits, x, x.fill(0, 1, 2, 4, bits), 6);
            Due.fails("choose " + bits, x, x.choose(0, (int) bits - 5), 6);
        }
        Due.fails("fill up to it", x, x.fill(0, 0, 2, 4, 7), 6);
        Due.fails("fill from it on", x, x.fill(0, 1, 3, 4, 7), 6);
        Due.fails("move what is there", x, x.move(1, 0, 0, 0, 3), 6);
        Due.fails("move onto itself", x, x.move(0, 1, 0, 1, 1), 6);
        Due.fails("move up to it", x, x.move(1, 0, 0, 0, 2), 6);
        Due.fails("move from it on", x, x.move(1, 0, 0, 1, 2), 6);
        Due.fails("sort it alone", x, x.sort(0, 1, 2), 6);
        Due.fails("sort up to it", x, x.sort(0, 0, 2), 6);
        Due.fails("sort from it on", x, x.sort(0, 1, 3), 6);
        x.rule(0, 0, 1, 13, 13);
        Due.fine("best", x, x.best(), 1);
        Make.holds("all is as it was", x, 0, 3, 5, 4);
        Due.fine("nothing written beside it", x, x.fill(0, 1, 1, 4, 7), 0);
        Due.fine("nothing moved onto it", x, x.move(1, 0, 0, 1, 0), 0);
        Due.fine("nothing sorted there", x, x.sort(0, 1, 1), 0);
        Due.fine("before it", x, x.fill(0, 0, 1, 4, 7), 1);
        Due.fine("behind it", x, x.move(1, 0, 0, 2, 1), 1);
        Make.holds("around it", x, 0, 7, 5, 3);
        Due.fine("it may be read", x, x.move(0, 1, 1, 0, 1), 1);
        x.pin(0, 1, 0, 0, 0, false);
        Due.fine("free again", x, x.write(0, 1, 0, 0, 0, 4, 6), 0);
        Make.holds("free again", x, 0, 7, 6, 3);
    }

    private static void pinnedRows() {
        Due.says("PINNED elements (of arrays of DEPTH 1)");
        DecisionArrays x = new DecisionArrays();
        x.grid(4, 2, 2, 1, 0, 0);
        x.pin(0, 0, 0, 0, 0, true);
        Due.fine("of its row", x, x.about(1, 5), 1);
        Due.fine("not of rows", x, x.about(0, 5), 0);
        Due.fine("rows may change", x, x.setRow(0, 0, 2), 0);
        Due.fine("rows may move", x, x.move(0, 0, 0, 1, 1), 1);
        Due.fails("by another path", x, x.write(1, 0, 0, 0, 0, 4, 1), 6);
    }

    private static void rules() {
        Due.says("RULES, 12 at most, judge an array of DEPTH 1 each; an AMOUNT, times the rule's WEIGHT (- 1000 .. 1000)");
        DecisionArrays x = Make.of(4, 1);
        for (int weight : new int[] {-1001, 1001, Integer.MIN_VALUE, Integer.MAX_VALUE}) {
            Due.fails("weight " + weight, x, x.rule(0, 0, weight, 0, 0), 9);
        }
        Due.fine("weight 1000", x, x.rule(0, 0, 1000, 0, 0), 0);
        Due.is("times 1000", x.score(), 1000);
        Due.fine("weight -1000", x, x.rule(0, 0, -1000, 3, 3), 1);
        Due.is("less 2 times 1000", x.score(), -1000);
        Due.fine("weight 0", x, x.rule(0, 0, 0, 9, 9), 2);
        Due.is("times 0", x.score(), -1000);
        for (int r = 3; r < 12; r++) {
            Due.fine("rule " + r, x, x.rule(r % 6, 0, 1, 1, 1), r);
        }
        Due.fails("the 13th", x, x.rule(0, 0, 1, 0, 0), 8);
        Due.fine("12", x, x.count(3), 12);
        Due.fine("the 12th", x, x.amount(11), 0);
        Due.fails("no 13th", x, x.amount(12), 0, 9);
        DecisionArrays y = Make.ladder(4, 1);
        for (int a = 1; a < 4; a++) {
            Due.fails("of depth " + (a + 1), y, y.rule(0, a, 1, 0, 0), 1);
        }
    }

    private static void scoreIsWide() {
        Due.says("THE SCORE is the sum of all (of 64 bits).");
        DecisionArrays x = Make.of(4, 0);
        Due.is("no rules", x.score(), 0);
        for (int r = 0; r < 12; r++) {
            x.rule(0, 0, 1000, 5000000, 5000000);
        }
        Due.is("more than 32 bits", x.score(), 12000000000L);
        DecisionArrays y = Make.of(4, 0);
        for (int r = 0; r < 12; r++) {
            y.rule(0, 0, -1000, 5000000, 5000000);
        }
        Due.is("less than 32 bits", y.score(), -12000000000L);
    }

    private static void amountIs(String what, DecisionArrays x, int sort, long low, long high, long due) {
        Due.fine(what, x, x.amount(x.rule(sort, 0, 1, low, high)), due);
    }

    private static void sum() {
        Due.says("0 SUM: of the sum of all NUMBERS (of 64 bits, wrapping): below a: a less it; else above b: it less b; "
            + "else 0.");
        DecisionArrays x = Make.of(4, 4, 6);
        amountIs("just below a", x, 0, 11, 20, 1);
        amountIs("at a", x, 0, 10, 20, 0);
        amountIs("at b", x, 0, 0, 10, 0);
        amountIs("just above b", x, 0, 0, 9, 1);
        amountIs("below a and above b", x, 0, 12, 7, 2);
        amountIs("at a and above b", x, 0, 10, 7, 3);
        amountIs("no elements", Make.of(4), 0, 1, 1, 1);
        amountIs("wraps above", Make.of(5, Long.MAX_VALUE, 1), 0, Long.MIN_VALUE, Long.MIN_VALUE, 0);
        amountIs("wraps below", Make.of(5, Long.MIN_VALUE, -1), 0, Long.MAX_VALUE, Long.MAX_VALUE, 0);
        amountIs("wraps twice", Make.of(5, Long.MAX_VALUE, Long.MAX_VALUE, 2), 0, 0, 0, 0);
        long least = Make.d(-1e30);
        amountIs("wraps to 0", Make.of(7, least, least), 0, 0, 0, 0);
        amountIs("wraps to - 2", Make.of(6, Make.f(1e30), Make.f(1e30)), 0, 0, 0, 2);
    }

    private static void unlike() {
        Due.says("1 UNLIKE: how many pairs of elements are of the same value (floats, doubles by ==: 0 and - 0 are, "
            + "the no-number is like none).");
        amountIs("no elements", Make.of(4), 1, 0, 0, 0);
        amountIs("one", Make.of(4, 5), 1, 0, 0, 0);
        amountIs("two alike", Make.of(4, 5, 5), 1, 0, 0, 1);
        amountIs("two apart", Make.of(4, 5, 9, 5), 1, 0, 0, 1);
        amountIs("three alike", Make.of(4, 5, 5, 5), 1, 0, 0, 3);
        amountIs("200 alike", Make.of(8, new long[200]), 1, 0, 0, 19900);
        amountIs("doubles 0 and - 0", Make.of(7, 0, Long.MIN_VALUE), 1, 0, 0, 1);
        amountIs("floats 0 and - 0", Make.of(6, 0, Integer.MIN_VALUE), 1, 0, 0, 1);
        amountIs("doubles, no-numbers", Make.of(7, Make.NO_DOUBLE, Make.NO_DOUBLE), 1, 0, 0, 0);
        amountIs("floats, no-numbers", Make.of(6, Make.NO_FLOAT, Make.NO_FLOAT), 1, 0, 0, 0);
        amountIs("doubles beside 0", Make.of(7, 0, 1, 0x8000000000000001L), 1, 0, 0, 0);
        amountIs("floats beside 0", Make.of(6, 0, 1, (int) 0x80000001), 1, 0, 0, 0);
        amountIs("longs that are no - 0", Make.of(5, 0, Long.MIN_VALUE), 1, 0, 0, 0);
        amountIs("ints that are no - 0", Make.of(4, 0, Integer.MIN_VALUE), 1, 0, 0, 0);
        amountIs("ints with the no-number's BITS", Make.of(4, Make.NO_FLOAT, Make.NO_FLOAT), 1, 0, 0, 1);
        amountIs("longs with the no-number's BITS", Make.of(5, Make.NO_DOUBLE, Make.NO_DOUBLE), 1, 0, 0, 1);
    }

    private static void rising() {
        Due.says("2 RISING: how many elements are below the one before, in order.");
        amountIs("no elements", Make.of(4), 2, 0, 0, 0);
        amountIs("one", Make.of(4, -5), 2, 0, 0, 0);
        amountIs("alike", Make.of(4, 5, 5), 2, 0, 0, 0);
        amountIs("rising", Make.of(4, -5, 5), 2, 0, 0, 0);
        amountIs("falling", Make.of(4, 5, -5), 2, 0, 0, 1);
        amountIs("falling to the last", Make.of(4, 1, 2, 1), 2, 0, 0, 1);
        amountIs("all falling", Make.of(5, Long.MAX_VALUE, 0, Long.MIN_VALUE), 2, 0, 0, 2);
        amountIs("0, then - 0", Make.of(7, 0, Long.MIN_VALUE), 2, 0, 0, 1);
        amountIs("- 0, then 0", Make.of(7, Long.MIN_VALUE, 0), 2, 0, 0, 0);
        amountIs("the no-number, then endless", Make.of(7, Make.NO_DOUBLE, 0x7FF0000000000000L), 2, 0, 0, 1);
        amountIs("endless, then the no-number", Make.of(7, 0x7FF0000000000000L, Make.NO_DOUBLE), 2, 0, 0, 0);
        amountIs("no-numbers", Make.of(6, Make.NO_FLOAT, Make.NO_FLOAT), 2, 0, 0, 0);
    }

    private static void counted() {
        Due.says("3 COUNT: how far from b is how many elements are of BITS a (bit by bit).");
        amountIs("no elements", Make.of(4), 3, 7, 2, 2);
        amountIs("too few", Make.of(4, 7), 3, 7, 2, 1);
        amountIs("as many", Make.of(4, 7, 7), 3, 7, 2, 0);
        amountIs("too many", Make.of(4, 7, 7, 7), 3, 7, 2, 1);
        amountIs("b below 0", Make.of(4, 7), 3, 7, -3, 4);
        amountIs("0 is not - 0", Make.of(7, 0, Long.MIN_VALUE), 3, 0, 0, 1);
        amountIs("- 0 is not 0", Make.of(6, 0, 0, Integer.MIN_VALUE), 3, Integer.MIN_VALUE, 0, 1);
        amountIs("no-numbers are", Make.of(7, Make.NO_DOUBLE, Make.NO_DOUBLE), 3, Make.NO_DOUBLE, 0, 2);
        amountIs("nulls are", Make.of(8, 0, 1, 0), 3, 0, 0, 2);
    }

    private static void changes() {
        Due.says("4 CHANGES: how many elements are of other BITS than the one before.");
        amountIs("no elements", Make.of(4), 4, 0, 0, 0);
        amountIs("one", Make.of(4, 9), 4, 0, 0, 0);
        amountIs("alike", Make.of(4, 9, 9), 4, 0, 0, 0);
        amountIs("one change", Make.of(4, 9, 8), 4, 0, 0, 1);
        amountIs("there and back", Make.of(4, 9, 8, 9), 4, 0, 0, 2);
        amountIs("0 and - 0", Make.of(7, 0, Long.MIN_VALUE), 4, 0, 0, 1);
        amountIs("no-numbers", Make.of(7, Make.NO_DOUBLE, Make.NO_DOUBLE), 4, 0, 0, 0);
    }

    private static void far() {
        Due.says("5 FAR: the greatest step between two elements side by side, their NUMBERS (as in sums) subtracted, "
            + "without its sign.");
        amountIs("no elements", Make.of(4), 5, 0, 0, 0);
        amountIs("one", Make.of(4, 9), 5, 0, 0, 0);
        amountIs("up", Make.of(4, 1, 9), 5, 0, 0, 8);
        amountIs("down", Make.of(4, 9, 1), 5, 0, 0, 8);
        amountIs("side by side alone", Make.of(4, 0, 3, 6, 9), 5, 0, 0, 3);
        amountIs("the first step", Make.of(4, 0, 7, 8, 9), 5, 0, 0, 7);
        amountIs("the last step", Make.of(4, 7, 8, 9, 2), 5, 0, 0, 7);
        amountIs("towards 0", Make.of(7, Make.d(1.9), Make.d(-0.9)), 5, 0, 0, 1);
        amountIs("the no-number is 0", Make.of(7, Make.d(-4), Make.NO_DOUBLE), 5, 0, 0, 4);
    }

    private static void amounts() {
        Due.says("(AMOUNTS are at most 1000000, also where 64 bits are too few.)");
        amountIs("sum 1000000 below", Make.of(4, 0), 0, 1000000, 1000000, 1000000);
        amountIs("sum 999999 below", Make.of(4, 1), 0, 1000000, 1000000, 999999);
        amountIs("sum 1000001 below", Make.of(4, -1), 0, 1000000, 1000000, 1000000);
        amountIs("sum 999999 above", Make.of(4, 999999), 0, 0, 0, 999999);
        amountIs("sum 1000001 above", Make.of(4, 1000001), 0, 0, 0, 1000000);
        amountIs("sum, 64 bits too few below", Make.of(5, Long.MIN_VALUE), 0, Long.MAX_VALUE, Long.MAX_VALUE, 1000000);
        amountIs("sum, just too few below", Make.of(5, Long.MIN_VALUE), 0, 0, 0, 1000000);
        amountIs("sum, 64 bits too few above", Make.of(5, Long.MAX_VALUE), 0, Long.MIN_VALUE, Long.MIN_VALUE, 1000000);
        amountIs("sum, just too few above", Make.of(5, Long.MAX_VALUE), 0, Long.MIN_VALUE, -1, 1000000);
        amountIs("count 1000000", Make.of(4, 7), 3, 7, 1000001, 1000000);
        amountIs("count 999999", Make.of(4, 7), 3, 7, 1000000, 999999);
        amountIs("count 1000001", Make.of(4, 7), 3, 7, 1000002, 1000000);
        amountIs("count, 64 bits too few", Make.of(4, 7), 3, 7, Long.MIN_VALUE, 1000000);
        amountIs("far 999999", Make.of(4, 1, 1000000), 5, 0, 0, 999999);
        amountIs("far 1000001", Make.of(4, -1, 1000000), 5, 0, 0, 1000000);
        amountIs("far, 64 bits too few", Make.of(5, Long.MAX_VALUE, Long.MIN_VALUE), 5, 0, 0, 1000000);
        amountIs("far, just too few", Make.of(5, 0, Long.MIN_VALUE), 5, 0, 0, 1000000);
        amountIs("far, endless ones", Make.of(7, 0x7FF0000000000000L, 0xFFF0000000000000L), 5, 0, 0, 1000000);
    }

    private static void leastScore() {
        Due.says("THE BEST CHOICE: of all ways to give each DECISION one of its CANDIDATES (of a PINNED one, or one "
            + "without CANDIDATES, what is there) that with the least SCORE");
        DecisionArrays x = Make.of(4, 50, 60, 70);
        x.rule(0, 0, 1, 133, 133);
        Due.fine("no decisions", x, x.best(), 1);
        for (int d = 0; d < 3; d++) {
            x.decide(0, d, 0, 0, 0);
        }
        Due.fine("no candidates", x, x.best(), 1);
        Make.holds("what is there", x, 0, 50, 60, 70);
        x.span(0, 1, 3, 1);
        Due.fine("one with candidates", x, x.best(), 3);
        Make.holds("what is there of two", x, 0, 3, 60, 70);
        x.span(1, 60, 62, 1);
        x.pin(0, 0, 0, 0, 0, true);
        Due.fine("one pinned", x, x.best(), 3);
        Make.holds("what is there of the pinned one", x, 0, 3, 60, 70);
        x.pin(0, 0, 0, 0, 0, false);
        x.candidate(2, 69);
        Due.fine("one candidate alone", x, x.best(), 9);
        Make.holds("it is taken, though worse", x, 0, 2, 62, 69);
        x.rule(0, 0, -3, 133, 133);
        Due.fine("a weight below 0", x, x.best(), 9);
        Make.holds("the farthest has the least", x, 0, 1, 60, 69);
    }

    private static void firstOfSeveral() {
        Due.says("of several the first, in the order in which the last DECISION changes fastest.");
        DecisionArrays x = Make.of(4, 0, 0);
        x.decide(0, 1, 0, 0, 0);
        x.decide(0, 0, 0, 0, 0);
        x.span(0, 1, 2, 1);
        x.span(1, 1, 2, 1);
        x.choose(0, 1);
        x.choose(1, 1);
        Due.fine("without rules", x, x.best(), 4);
        Make.holds("the first of all", x, 0, 1, 1);
        x.rule(0, 0, 1, 3, 3);
        Due.fine("two are best", x, x.best(), 4);
        Make.holds("the last decision has changed", x, 0, 2, 1);
        DecisionArrays y = Make.of(4, 0);
        y.decide(0, 0, 0, 0, 0);
        for (long bits : new long[] {9, 4, 6, 2}) {
            y.candidate(0, bits);
        }
        y.rule(0, 0, 1, 5, 5);
        Due.fine("by the order of candidates", y, y.best(), 4);
        Make.holds("4 came ahead of 6", y, 0, 4);
    }

    private static void marks() {
        Due.says("mark() keeps what all elements are; back() makes it so again (also PINS; arrays, DECISIONS, RULES that "
            + "came since stay; elements of arrays that came since as well). Up to 8 MARKS, one above the other.");
        DecisionArrays x = new DecisionArrays();
        x.grid(4, 2, 1, 2, 0, 0);
        x.pin(1, 0, 0, 0, 0, true);
        for (int m = 1; m <= 8; m++) {
            x.write(1, 1, 0, 0, 0, 4, m);
            Due.fine("mark " + m, x, x.mark(), m);
        }
        Due.fails("mark 9", x, x.mark(), 8);
        x.setRow(0, 0, -1);
        x.pin(1, 0, 0, 0, 0, false);
        x.fill(1, 0, 2, 4, 99);
        x.pin(1, 1, 0, 0, 0, true);
        x.array(4, 1);
        x.fill(2, 0, 1, 4, 5);
        x.pin(2, 0, 0, 0, 0, true);
        x.candidate(x.decide(1, 0, 0, 0, 0), 5);
        x.rule(0, 1, 1, 0, 0);
        for (int m = 8; m >= 1; m--) {
            Due.fine("back from " + m, x, x.back(), m - 1);
            Make.holds("as at mark " + m, x, 1, 0, m);
        }
        Due.fails("back from none", x, x.back(), 9);
        Due.fine("rows too", x, x.row(0, 0), 1);
        Due.fails("pins too", x, x.write(1, 0, 0, 0, 0, 4, 1), 6);
        Due.fine("pins that came since go", x, x.write(1, 1, 0, 0, 0, 4, 1), 0);
        Due.fine("arrays stay", x, x.count(0), 3);
        Make.holds("their elements stay", x, 2, 5);
        Due.fine("their pins stay", x, x.about(2, 5), 1);
        Due.fine("decisions stay", x, x.decision(0, 2), 1);
        Due.fine("rules stay", x, x.amount(0), 1);
        for (int m = 1; m <= 8; m++) {
            Due.fine("mark " + m + " again", x, x.mark(), m);
        }
        Due.fails("mark 9 again", x, x.mark(), 8);
    }
}
