/** Promises 30 to 33: rule, amount, score, best. */
public final class RulesTest {
    private static final long NO_FLOAT = 0x7FC00000L;
    private static final long NO_DOUBLE = 0x7FF8000000000000L;

    public static void main(String[] args) {
        rule();
        sum();
        sumOfFloats();
        unlike();
        rising();
        count();
        changes();
        far();
        score();
        best();
        bestOfSeveral();
        bestPinned();
        bestBounds();
        bestIsLeast();
        Due.end();
    }

    /** A new object whose array 0 holds these. */
    private static DecisionArrays of(int kind, long... bits) {
        DecisionArrays x = new DecisionArrays();
        x.array(kind, bits.length);
        for (int i = 0; i < bits.length; i++) {
            Due.is("put", x.write(0, i, 0, 0, 0, kind, bits[i]), 0);
        }
        return x;
    }

    private static long d(double value) {
        return Double.doubleToLongBits(value);
    }

    private static void amountIs(String what, DecisionArrays x, int sort, long low, long high, long due) {
        int r = x.rule(sort, 0, 1, low, high);
        Due.fine(what, x, x.amount(r), due);
    }

    private static void rule() {
        DecisionArrays x = of(2, 1, 2);
        x.rows(0, 1);
        Due.fails("30 no array", x, x.rule(0, 2, 1, 0, 0), 5);
        Due.fails("30 array ahead of sort", x, x.rule(6, -1, 1, 0, 0), 5);
        Due.fails("30 sort 6", x, x.rule(6, 0, 1, 0, 0), 9);
        Due.fails("30 sort -1", x, x.rule(-1, 0, 1, 0, 0), 9);
        Due.fails("30 weight 1001", x, x.rule(0, 0, 1001, 0, 0), 9);
        Due.fails("30 weight -1001", x, x.rule(0, 0, -1001, 0, 0), 9);
        Due.fails("30 bits of 3", x, x.rule(3, 0, 1, 128, 0), 9);
        Due.fails("30 bits ahead of depth", x, x.rule(3, 1, 1, 128, 0), 9);
        Due.fails("30 depth", x, x.rule(3, 1, 1, 127, 0), 1);
        Due.fails("30 sort ahead of depth", x, x.rule(6, 1, 1, 0, 0), 9);
        Due.fine("30 bits of others are free", x, x.rule(0, 0, 1000, 128, 999), 0);
        Due.fine("30 least weight", x, x.rule(3, 0, -1000, 127, 999), 1);
        for (int r = 2; r < 12; r++) {
            Due.fine("30 more", x, x.rule(r % 6, 0, 0, 0, 0), r);
        }
        Due.fails("30 the 13th", x, x.rule(0, 0, 1, 0, 0), 8);
        Due.fails("30 depth ahead of bound", x, x.rule(0, 1, 1, 0, 0), 1);
        Due.fine("30 twelve", x, x.count(3), 12);
        Due.fails("31 no rule", x, x.amount(12), 0, 9);
        Due.fails("31 rule -1", x, x.amount(-1), 0, 9);
    }

    private static void sum() {
        DecisionArrays x = of(4, 5, -2, 4);
        amountIs("31 sum below", x, 0, 10, 20, 3);
        amountIs("31 sum above", x, 0, 0, 3, 4);
        amountIs("31 sum between", x, 0, 7, 7, 0);
        amountIs("31 sum below ahead of above", x, 0, 9, 1, 2);
        amountIs("31 sum far below", x, 0, 1000007, Long.MAX_VALUE, 1000000);
        amountIs("31 sum nearly so", x, 0, 1000006, Long.MAX_VALUE, 999999);
        amountIs("31 sum below, 64 bits too few", of(5, Long.MIN_VALUE), 0, Long.MAX_VALUE, 0, 1000000);
        amountIs("31 sum above, 64 bits too few", of(5, Long.MAX_VALUE), 0, Long.MIN_VALUE, -5, 1000000);
        amountIs("31 sum wraps", of(5, Long.MAX_VALUE, 3), 0, Long.MIN_VALUE, Long.MIN_VALUE, 2);
        amountIs("31 sum of booleans", of(0, 1, 0, 1), 0, 0, 0, 2);
        amountIs("31 sum of chars", of(1, 65535, 1), 0, 0, 0, 65536);
        amountIs("31 sum of things", of(8, 1000, 0, 1), 0, 0, 0, 1001);
        amountIs("31 sum of none", of(4), 0, 3, 9, 3);
    }

    private static void sumOfFloats() {
        amountIs("31 towards 0", of(7, d(2.9), d(-1.9)), 0, 0, 0, 1);
        amountIs("31 no-number is 0", of(7, NO_DOUBLE, d(3)), 0, 0, 0, 3);
        amountIs("31 small ones", of(7, d(0.99), d(-0.99), d(-0.0), 1), 0, 0, 0, 0);
        long top = Long.MAX_VALUE;
        amountIs("31 at most", of(7, d(1e300)), 0, top, top, 0);
        amountIs("31 endless", of(7, d(Double.POSITIVE_INFINITY)), 0, top, top, 0);
        amountIs("31 at least", of(7, d(-1e300)), 0, Long.MIN_VALUE, Long.MIN_VALUE, 0);
        amountIs("31 2^63", of(7, d(0x1p63)), 0, top, top, 0);
        amountIs("31 - 2^63", of(7, d(-0x1p63)), 0, Long.MIN_VALUE, Long.MIN_VALUE, 0);
        amountIs("31 below 2^63", of(7, d(0x1.fffffffffffffp62)), 0, 0x7FFFFFFFFFFFFC00L, 0x7FFFFFFFFFFFFC00L, 0);
        amountIs("31 2^52 + 1", of(7, d(-(0x1p52 + 1))), 0, -(1L << 52) - 1, -(1L << 52) - 1, 0);
        amountIs("31 2^53", of(7, d(0x1p53)), 0, 1L << 53, 1L << 53, 0);
        amountIs("31 float", of(6, Float.floatToIntBits(-7.75f)), 0, 0, 0, 7);
        amountIs("31 float 2^24", of(6, Float.floatToIntBits(0x1p24f)), 0, 1 << 24, 1 << 24, 0);
        amountIs("31 float 2^40", of(6, Float.floatToIntBits(-0x1.8p40f)), 0, -(3L << 39), -(3L << 39), 0);
        amountIs("31 float no-number", of(6, NO_FLOAT), 0, 1, 9, 1);
        amountIs("31 float endless", of(6, 0xFF800000), 0, Long.MIN_VALUE, Long.MIN_VALUE, 0);
        amountIs("31 float greatest", of(6, 0x7F7FFFFF), 0, top, top, 0);
        amountIs("31 float small", of(6, 1, 0x3F7FFFFF), 0, 0, 0, 0);
    }

    private static void unlike() {
        amountIs("31 unlike", of(4, 1, 2, 1, 1, 2), 1, 0, 0, 4);
        amountIs("31 nulls", of(8, 0, 0, 5), 1, 0, 0, 1);
        amountIs("31 0 and - 0", of(7, 0, d(-0.0), d(-0.0)), 1, 0, 0, 3);
        amountIs("31 no-numbers", of(7, NO_DOUBLE, NO_DOUBLE), 1, 0, 0, 0);
        amountIs("31 endless ones", of(7, d(1 / 0.0), d(1 / 0.0), d(-1 / 0.0)), 1, 0, 0, 1);
        amountIs("31 floats", of(6, 0, Integer.MIN_VALUE, NO_FLOAT, NO_FLOAT, 1, 1), 1, 0, 0, 2);
        amountIs("31 unlike, none", of(4), 1, 0, 0, 0);
        amountIs("31 unlike, longs", of(5, Long.MIN_VALUE, 0), 1, 0, 0, 0);
        amountIs("31 unlike, all", of(0, new long[200]), 1, 0, 0, 19900);
    }

    private static void rising() {
        amountIs("31 rising", of(4, 1, 3, 2, 2, 1), 2, 0, 0, 2);
        amountIs("31 rising, chars", of(1, 65535, 0), 2, 0, 0, 1);
        amountIs("31 rising, - 0", of(7, 0, d(-0.0), 0), 2, 0, 0, 1);
        amountIs("31 rising, no-number", of(7, NO_DOUBLE, d(1 / 0.0), NO_DOUBLE), 2, 0, 0, 1);
        amountIs("31 rising, below 0", of(7, d(-1), d(-2), d(-1)), 2, 0, 0, 1);
        amountIs("31 rising, floats", of(6, Float.floatToIntBits(-1f), Float.floatToIntBits(-2f), 0), 2, 0, 0, 1);
        amountIs("31 rising, one", of(4, -5), 2, 0, 0, 0);
    }

    private static void count() {
        amountIs("31 count", of(4, 7, 7, 1), 3, 7, 5, 3);
        amountIs("31 count above", of(4, 7, 7, 1), 3, 7, 0, 2);
        amountIs("31 count right", of(4, 7, 7, 1), 3, 7, 2, 0);
        amountIs("31 count by bits", of(7, 0, d(-0.0), 0), 3, 0, 0, 2);
        amountIs("31 count no-numbers", of(7, NO_DOUBLE, -1, 0), 3, Long.MAX_VALUE, 0, 2);
        amountIs("31 count far", of(4, 7), 3, 7, Long.MAX_VALUE, 1000000);
        amountIs("31 count far below", of(4, 7), 3, 7, Long.MIN_VALUE, 1000000);
        amountIs("31 count nearly so", of(4, 7), 3, 7, -999998, 999999);
    }

    private static void changes() {
        amountIs("31 changes", of(4, 1, 1, 2, 1), 4, 0, 0, 2);
        amountIs("31 changes by bits", of(6, 0, Integer.MIN_VALUE, NO_FLOAT, NO_FLOAT), 4, 0, 0, 2);
        amountIs("31 changes, one", of(4, 3), 4, 0, 0, 0);
        amountIs("31 changes, none", of(4), 4, 0, 0, 0);
    }

    private static void far() {
        amountIs("31 far", of(4, 1, 4, -3, -4), 5, 0, 0, 7);
        amountIs("31 far, one", of(4, 999), 5, 0, 0, 0);
        amountIs("31 far, none", of(4), 5, 0, 0, 0);
        amountIs("31 far, most", of(4, 0, 1000001), 5, 0, 0, 1000000);
        amountIs("31 far, 64 bits too few", of(5, Long.MIN_VALUE, Long.MAX_VALUE), 5, 0, 0, 1000000);
        amountIs("31 far, as in sums", of(7, d(1.9), d(-1.9)), 5, 0, 0, 2);
        amountIs("31 far, no-number", of(7, d(5), NO_DOUBLE), 5, 0, 0, 5);
        amountIs("31 far, booleans", of(0, 0, 1), 5, 0, 0, 1);
        amountIs("31 far, things", of(8, 1000, 0), 5, 0, 0, 1000);
    }

    private static void score() {
        DecisionArrays x = of(4, 5, 5, 1);
        Due.is("32 no rules", x.score(), 0);
        x.rule(0, 0, 3, 0, 1);
        x.rule(1, 0, -100, 0, 0);
        x.rule(2, 0, 0, 0, 0);
        Due.is("32 score", x.score(), 3 * 10 - 100);
        x.write(0, 1, 0, 0, 0, 4, 2);
        Due.is("32 of what is there", x.score(), 3 * 7);
        for (int r = 3; r < 12; r++) {
            x.rule(0, 0, -1000, Long.MAX_VALUE, Long.MAX_VALUE);
        }
        Due.is("32 far below", x.score(), 21 - 9 * 1000000000L);
    }

    private static void best() {
        DecisionArrays x = of(4, 9, 9, 9);
        Due.fine("33 no decisions", x, x.best(), 1);
        Due.fine("33 nothing changed", x, x.read(0, 0, 0, 0, 0, 4), 9);
        for (int i = 0; i < 3; i++) {
            x.decide(0, i, 0, 0, 0);
        }
        Due.fine("33 no candidates", x, x.best(), 1);
        Due.fine("33 nothing changed", x, x.read(0, 2, 0, 0, 0, 4), 9);
        x.span(0, 1, 3, 1);
        x.span(1, 1, 4, 1);
        x.span(2, 1, 5, 1);
        x.rule(0, 0, 1, 11, 11);
        x.rule(1, 0, 10, 0, 0);
        Due.fine("33 ways", x, x.best(), 60);
        Due.is("33 score", x.score(), 0);
        long[] due = {2, 4, 5};
        for (int i = 0; i < 3; i++) {
            Due.fine("33 element " + i, x, x.read(0, i, 0, 0, 0, 4), due[i]);
        }
    }

    private static void bestOfSeveral() {
        DecisionArrays x = of(4, 0, 0, 0);
        for (int i = 2; i >= 0; i--) {
            x.span(x.decide(0, i, 0, 0, 0), 1, 3, 1);
        }
        Due.fine("33 without rules", x, x.best(), 27);
        for (int d = 0; d < 3; d++) {
            Due.fine("33 the first of all", x, x.decision(d, 3), 0);
        }
        x.rule(0, 0, 1, 7, 7);
        x.best();
        Due.fine("33 the first in order, place 2", x, x.read(0, 2, 0, 0, 0, 4), 1);
        Due.fine("33 the first in order, place 1", x, x.read(0, 1, 0, 0, 0, 4), 3);
        Due.fine("33 the first in order, place 0", x, x.read(0, 0, 0, 0, 0, 4), 3);
        x.rule(0, 0, -5, 7, 7);
        x.best();
        Due.is("33 a weight below 0", x.score(), -4 * 4);
        Due.fine("33 the first of these", x, x.read(0, 2, 0, 0, 0, 4), 1);
    }

    private static void bestPinned() {
        DecisionArrays x = of(4, 50, 50, 50);
        for (int i = 0; i < 3; i++) {
            x.span(x.decide(0, i, 0, 0, 0), 1, 10, 1);
        }
        x.decide(0, 0, 0, 0, 0);
        x.rule(0, 0, 1, 57, 57);
        x.pin(0, 1, 0, 0, 0, true);
        Due.fine("33 ways without the pinned one", x, x.best(), 100);
        Due.fine("36 ways without it", x, x.count(5), 100);
        Due.fine("33 the pinned one stays", x, x.read(0, 1, 0, 0, 0, 4), 50);
        Due.fine("33 first", x, x.read(0, 0, 0, 0, 0, 4), 1);
        Due.fine("33 last", x, x.read(0, 2, 0, 0, 0, 4), 6);
        x.pin(0, 0, 0, 0, 0, true);
        x.pin(0, 2, 0, 0, 0, true);
        Due.fine("33 all pinned", x, x.best(), 1);
        Due.is("33 score stays", x.score(), 0);
    }

    private static void bestBounds() {
        DecisionArrays x = of(4, 7, 7, 7, 7, 7);
        int[] widths = {10, 10, 10, 5};
        for (int i = 0; i < 4; i++) {
            x.span(x.decide(0, i, 0, 0, 0), 1, widths[i], 1);
        }
        x.rule(0, 0, 1, 42, 42);
        Due.fine("33 5000 ways", x, x.best(), 5000);
        Due.is("33 best of 5000", x.score(), 0);
        x.candidate(3, 99);
        Due.fine("36 more than 5000", x, x.count(5), 5001);
        x.fill(0, 0, 5, 4, 3);
        Due.fails("33 6000 ways", x, x.best(), 8);
        for (int i = 0; i < 5; i++) {
            Due.fine("33 nothing is made", x, x.read(0, i, 0, 0, 0, 4), 3);
        }
        fullHouse();
        DecisionArrays y = new DecisionArrays();
        y.array(4, 24);
        for (int i = 0; i < 24; i++) {
            y.span(y.decide(0, i, 0, 0, 0), 1, 16, 1);
        }
        Due.fine("36 16 by 24 times", y, y.count(5), 5001);
        Due.fails("33 16 by 24 times", y, y.best(), 8);
    }

    /** 24 DECISIONS, 12 RULES, one array to its end. */
    private static void fullHouse() {
        DecisionArrays x = new DecisionArrays();
        x.array(6, 24);
        for (int i = 0; i < 24; i++) {
            x.decide(0, i, 0, 0, 0);
            x.candidate(i, Float.floatToIntBits(i));
        }
        x.candidate(23, Float.floatToIntBits(24f));
        x.candidate(0, Float.floatToIntBits(-1f));
        for (int r = 0; r < 12; r++) {
            x.rule(r % 6, 0, r % 6 == 3 ? 5 : 1, r % 6 == 3 ? Float.floatToIntBits(24f) : 276, r % 6 == 3 ? 1 : 276);
        }
        Due.fine("33 full house", x, x.best(), 4);
        Due.fine("33 its last", x, x.decision(23, 3), 1);
        Due.fine("33 its first", x, x.decision(0, 3), 1);
        Due.is("33 its score", x.score(), 2 * (23 + 2));
    }

    /** Against trying every way by choose() and score(), with every sort of rule. */
    private static void bestIsLeast() {
        for (int seed = 0; seed < 200; seed++) {
            long[] least = tryAll(seed);
            DecisionArrays x = mixed(seed);
            Due.fine("33 ways of " + seed, x, x.best(), x.count(5));
            Due.is("33 least of " + seed, x.score(), least[0]);
            for (int dec = x.count(2) - 1; dec >= 0; dec--) {
                int choices = x.decision(dec, 2);
                Due.is("33 choice " + dec + " of " + seed, x.decision(dec, 3), least[1] % choices);
                least[1] /= choices;
            }
        }
    }

    private static DecisionArrays mixed(int seed) {
        long[] doubles = {d(0.0), d(-0.0), d(1.5), d(-1.5), d(3), d(1 / 0.0)};
        java.util.Random random = new java.util.Random(seed);
        DecisionArrays x = new DecisionArrays();
        x.array(7, 6);
        x.array(7, 4);
        x.fill(0, 2, 4, 7, NO_DOUBLE);
        for (int q = 0; q < 4; q++) {
            int dec = x.decide(random.nextInt(2), random.nextInt(4), 0, 0, 0);
            for (int c = random.nextInt(4); c >= 0; c--) {
                x.candidate(dec, doubles[random.nextInt(6)]);
            }
        }
        for (int r = 0; r < 8; r++) {
            x.rule(random.nextInt(6), random.nextInt(2), random.nextInt(11) - 5,
                random.nextInt(5) - 2, random.nextInt(5) - 2);
        }
        return x;
    }

    /** The least SCORE, and the first way that has it; a new object for each way, for the sake of the 512 calls. */
    private static long[] tryAll(int seed) {
        long[] least = {Long.MAX_VALUE, 0};
        int ways = mixed(seed).count(5);
        for (int way = 0; way < ways; way++) {
            DecisionArrays x = mixed(seed);
            int left = way;
            for (int dec = x.count(2) - 1; dec >= 0; dec--) {
                int choices = x.decision(dec, 2);
                x.choose(dec, left % choices);
                left /= choices;
            }
            if (x.score() < least[0]) {
                least[0] = x.score();
                least[1] = way;
            }
        }
        return least;
    }
}
