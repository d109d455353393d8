/** Promises 24 to 36: the edges that each names, behind its sentence (what is refused: RefusedCallsTest). */
public final class ChoicePromisesEdgesTest {
    public static void main(String[] args) {
        decide();
        candidate();
        spanSteps();
        spanWidths();
        spanFull();
        spanKinds();
        choose();
        decision();
        candidateOf();
        rule();
        amount();
        score();
        bestWays();
        bestIsMade();
        bestWithManyRules();
        bestOfAFullHouse();
        bestBesidePinnedOnes();
        mark();
        back();
        backOverRows();
        count();
        ways();
        Due.end();
    }

    private static void decide() {
        Due.says("An element becomes a DECISION: its number; of one that is: that. 5, 2, 3, 8.");
        DecisionArrays x = Make.ladder(4, 25);
        Due.fine("the first", x, x.decide(3, 1, 1, 1, 24), 0);
        Due.fine("by another path", x, x.decide(0, 24, 0, 0, 0), 0);
        for (int d = 1; d < 24; d++) {
            Due.fine("decision " + d, x, x.decide(0, d, 0, 0, 0), d);
        }
        Due.fails("the 25th", x, x.decide(0, 0, 0, 0, 0), 8);
        Due.fine("one that is, when all are", x, x.decide(1, 1, 24, 0, 0), 0);
        Due.fine("the last one too", x, x.decide(0, 23, 0, 0, 0), 23);
        Due.fails("an index that is not", x, x.decide(0, 25, 0, 0, 0), 2);
        Due.fails("a null row", x, x.decide(1, 0, 0, 0, 0), 3);
        Due.fine("24", x, x.count(2), 24);
        DecisionArrays y = Make.of(0, 0, 0);
        y.pin(0, 0, 0, 0, 0, true);
        Due.fine("a pinned one", y, y.decide(0, 0, 0, 0, 0), 0);
        Due.fine("values stay", y, y.read(0, 0, 0, 0, 0, 0), 0);
    }

    private static void candidate() {
        Due.says("A CANDIDATE more: how many. 9 (no such DECISION; BITS that are none, the no-number, one that is there), "
            + "7, 8.");
        DecisionArrays x = Make.of(0, 0);
        x.decide(0, 0, 0, 0, 0);
        Due.fine("so", x, x.candidate(0, 1), 1);
        Due.fine("not", x, x.candidate(0, 0), 2);
        Due.fails("so again", x, x.candidate(0, 1), 9);
        Due.fails("2", x, x.candidate(0, 2), 9);
        Due.fails("a decision that is not yet", x, x.candidate(1, 1), 9);
        Due.fine("two", x, x.decision(0, 2), 2);
        Make.holds("nothing is written", x, 0, 0);
        x.array(4, 1);
        x.decide(1, 0, 0, 0, 0);
        x.span(1, 1, 15, 1);
        Due.fine("the 16th", x, x.candidate(1, 0), 16);
        Due.fails("the 17th", x, x.candidate(1, 16), 8);
        Due.fails("the 17th, one that is there", x, x.candidate(1, 15), 9);
        Due.fails("the 17th, none", x, x.candidate(1, 1L << 31), 9);
        x.pin(1, 0, 0, 0, 0, true);
        x.pin(0, 0, 0, 0, 0, true);
        x.things(1, 1);
        x.decide(2, 0, 0, 0, 0);
        x.pin(2, 0, 0, 0, 0, true);
        Due.fine("of a pinned one", x, x.candidate(2, 8), 1);
    }

    private static void spanSteps() {
        Due.says("CANDIDATES low, low + step, .. up to high, those that are not there yet: how many there are.");
        for (int width = -2; width <= 6; width++) {
            for (int step = 1; step <= 8; step++) {
                DecisionArrays x = Make.of(4, 0);
                x.decide(0, 0, 0, 0, 0);
                int due = width < 0 ? 0 : width / step + 1;
                Due.fine("width " + width + ", step " + step, x, x.span(0, -3, -3 + width, step), due);
                for (int c = 0; c < due; c++) {
                    Due.fine("candidate " + c, x, x.candidateOf(0, c), -3 + c * step);
                }
                Due.fine("there again", x, x.span(0, -3, -3 + width, step), due);
            }
        }
        DecisionArrays x = Make.of(4, 0);
        x.decide(0, 0, 0, 0, 0);
        x.candidate(0, 4);
        x.candidate(0, 2);
        Due.fine("two more", x, x.span(0, 1, 4, 1), 4);
        long[] due = {4, 2, 1, 3};
        for (int c = 0; c < 4; c++) {
            Due.fine("in their order", x, x.candidateOf(0, c), due[c]);
        }
    }

    private static void spanWidths() {
        Due.says("CANDIDATES low, low + step, .. up to high");
        long least = Long.MIN_VALUE;
        long most = Long.MAX_VALUE;
        spanIs(least, most, most, least, -1, most - 1);
        spanIs(least, most, most - 1, least, -2, most - 3);
        spanIs(most, most, 1, most);
        spanIs(most, most, most, most);
        spanIs(least, least, 1, least);
        spanIs(most - 2, most, 1, most - 2, most - 1, most);
        spanIs(most - 2, most, 2, most - 2, most);
        spanIs(most - 2, most, 3, most - 2);
        spanIs(least, least + 2, most, least);
        spanIs(-1, most, most, -1, most - 1);
        spanIs(0, most, most, 0, most);
        spanIs(1, most, most, 1);
        spanIs(most, least, 1);
        spanIs(0, -1, 1);
        DecisionArrays x = Make.of(5, 0);
        x.decide(0, 0, 0, 0, 0);
        Due.fails("all longs", x, x.span(0, least, most, 1), 8);
        Due.fails("17 of them", x, x.span(0, least, most, most / 8), 8);
        Due.fine("none has come", x, x.decision(0, 2), 0);
    }

    private static void spanIs(long low, long high, long step, long... due) {
        DecisionArrays x = Make.of(5, 0);
        x.decide(0, 0, 0, 0, 0);
        Due.fine("span " + low + " " + high + " " + step, x, x.span(0, low, high, step), due.length);
        for (int c = 0; c < due.length; c++) {
            Due.fine("candidate " + c, x, x.candidateOf(0, c), due[c]);
        }
    }

    private static void spanFull() {
        Due.says("low or high none of it; step below 1), 8 (nothing changes).");
        DecisionArrays x = Make.of(4, 0);
        x.decide(0, 0, 0, 0, 0);
        Due.fails("17", x, x.span(0, 1, 17, 1), 8);
        Due.fine("none", x, x.decision(0, 2), 0);
        Due.fine("15", x, x.span(0, 1, 15, 1), 15);
        Due.fails("two more", x, x.span(0, 16, 17, 1), 8);
        Due.fine("still 15", x, x.decision(0, 2), 15);
        Due.fails("no 16th", x, x.candidateOf(0, 15), 0, 9);
        Due.fine("one more", x, x.span(0, 0, 15, 1), 16);
        Due.fine("all there", x, x.span(0, 0, 15, 1), 16);
        Due.fine("some there", x, x.span(0, 1, 15, 7), 16);
        Due.fine("no span", x, x.span(0, 99, 98, 1), 16);
        Due.fails("one too many", x, x.span(0, 0, 16, 1), 8);
        Due.fails("one too many, last", x, x.span(0, 0, 90, 15), 8);
        Due.fine("16", x, x.decision(0, 2), 16);
        Due.fine("the order stays", x, x.candidateOf(0, 15), 0);
        for (long step : new long[] {0, -1, Long.MIN_VALUE}) {
            Due.fails("step " + step, x, x.span(0, 1, 2, step), 9);
        }
    }

    private static void spanKinds() {
        Due.says("9 (no such DECISION; KIND not 1 .. 5; low or high none of it; step below 1)");
        long[] lowest = {0, -128, -32768, Integer.MIN_VALUE};
        long[] highest = {65535, 127, 32767, Integer.MAX_VALUE};
        for (int kind = 0; kind <= 8; kind++) {
            DecisionArrays x = Make.of(kind, 0);
            x.decide(0, 0, 0, 0, 0);
            boolean told = kind >= 1 && kind <= 5;
            Due.is("kind " + kind, x.span(0, 0, 1, 1), told ? 2 : -9);
            Due.is("its code", x.code(), told ? 0 : 9);
        }
        for (int kind = 1; kind <= 4; kind++) {
            DecisionArrays x = Make.of(kind, 0);
            x.decide(0, 0, 0, 0, 0);
            long low = lowest[kind - 1];
            long high = highest[kind - 1];
            Due.fails("low below", x, x.span(0, low - 1, low, 1), 9);
            Due.fails("high above", x, x.span(0, high, high + 1, 1), 9);
            Due.fails("high below", x, x.span(0, low, low - 1, 1), 9);
            Due.fails("low above", x, x.span(0, high + 1, high, 1), 9);
            Due.fine("the lowest", x, x.span(0, low, low, 1), 1);
            Due.fine("the highest", x, x.span(0, high, high, 1), 2);
            Due.fine("a step beyond", x, x.span(0, high - 1, high, Long.MAX_VALUE), 3);
        }
    }

    private static void choose() {
        Due.says("A DECISION's element becomes CANDIDATE c: 0. 9, 6.");
        DecisionArrays x = Make.of(6, Make.NO_FLOAT, 1);
        x.decide(0, 0, 0, 0, 0);
        Due.fails("without candidates", x, x.choose(0, 0), 9);
        x.candidate(0, Integer.MIN_VALUE);
        x.candidate(0, 0);
        Due.fine("the first", x, x.choose(0, 0), 0);
        Make.holds("- 0", x, 0, Integer.MIN_VALUE, 1);
        Due.fine("the last", x, x.choose(0, 1), 0);
        Make.holds("0", x, 0, 0, 1);
        Due.fine("what is there", x, x.choose(0, 1), 0);
        Due.fails("behind the last", x, x.choose(0, 2), 9);
        Due.fails("ahead of the first", x, x.choose(0, -1), 9);
        Due.fails("of the next decision", x, x.choose(1, 0), 9);
        x.pin(0, 0, 0, 0, 0, true);
        Due.fails("pinned", x, x.choose(0, 0), 6);
        Due.fails("pinned, what is there", x, x.choose(0, 1), 6);
        Due.fails("pinned, no candidate", x, x.choose(0, 2), 9);
        Make.holds("as it was", x, 0, 0, 1);
    }

    private static void decision() {
        Due.says("Of a DECISION: its array (what = 0), place (1), CANDIDATES (2), the CANDIDATE that the element is "
            + "(3; NONE -2). 9.");
        DecisionArrays x = new DecisionArrays();
        x.grid(7, 2, 19, 200, 0, 0);
        x.decide(0, 18, 199, 0, 0);
        Due.fine("its array", x, x.decision(0, 0), 19);
        Due.fine("its place", x, x.decision(0, 1), 199);
        Due.fine("no candidates", x, x.decision(0, 2), 0);
        Due.fine("none is it", x, x.decision(0, 3), -2);
        x.candidate(0, Long.MIN_VALUE);
        Due.fine("- 0 is not 0", x, x.decision(0, 3), -2);
        x.candidate(0, 0);
        Due.fine("0 is", x, x.decision(0, 3), 1);
        x.write(19, 199, 0, 0, 0, 7, Make.NO_DOUBLE);
        Due.fine("the no-number is none", x, x.decision(0, 3), -2);
        x.choose(0, 0);
        Due.fine("the first", x, x.decision(0, 3), 0);
        Due.fails("what 4", x, x.decision(0, 4), 9);
        Due.fails("what -1", x, x.decision(0, -1), 9);
        Due.fails("the next decision", x, x.decision(1, 0), 9);
    }

    private static void candidateOf() {
        Due.says("BITS of CANDIDATE c of a DECISION. 9.");
        DecisionArrays x = Make.of(5, 0, 0);
        x.decide(0, 0, 0, 0, 0);
        x.decide(0, 1, 0, 0, 0);
        Due.fails("no candidates", x, x.candidateOf(0, 0), 0, 9);
        x.span(0, -8, 7, 1);
        x.candidate(1, Long.MIN_VALUE);
        Due.fine("the first", x, x.candidateOf(0, 0), -8);
        Due.fine("the 16th", x, x.candidateOf(0, 15), 7);
        Due.fails("a 17th", x, x.candidateOf(0, 16), 0, 9);
        Due.fails("ahead of the first", x, x.candidateOf(1, -1), 0, 9);
        Due.fine("0 without a code", x, x.candidateOf(0, 8), 0);
        Due.fine("of the next decision", x, x.candidateOf(1, 0), Long.MIN_VALUE);
        Due.fails("behind its last", x, x.candidateOf(1, 1), 0, 9);
    }

    private static void rule() {
        Due.says("A RULE more, of a sort 0 .. 5: its number. 5, 9 (sort, WEIGHT; of 3 BITS a that are none), "
            + "1 (another DEPTH), 8.");
        DecisionArrays x = Make.of(2, 1);
        for (int sort = 0; sort <= 5; sort++) {
            Due.fine("sort " + sort, x, x.rule(sort, 0, 1, 1, 1), sort);
        }
        Due.fails("sort 6", x, x.rule(6, 0, 1, 0, 0), 9);
        Due.fails("sort -1", x, x.rule(-1, 0, 1, 0, 0), 9);
        Due.fails("no BITS of a byte", x, x.rule(3, 0, 1, 128, 0), 9);
        Due.fails("no BITS of a byte, below", x, x.rule(3, 0, 1, -129, 0), 9);
        Due.fine("BITS of a byte, how many is free", x, x.rule(3, 0, 1, 127, Long.MIN_VALUE), 6);
        Due.fine("of others any", x, x.rule(0, 0, 1, 128, Long.MAX_VALUE), 7);
        Due.fine("weight 1000", x, x.rule(5, 0, 1000, Long.MAX_VALUE, 0), 8);
        Due.fine("weight -1000", x, x.rule(5, 0, -1000, Long.MIN_VALUE, 0), 9);
        Due.fails("weight 1001", x, x.rule(5, 0, 1001, 0, 0), 9);
        Due.fails("weight -1001", x, x.rule(5, 0, -1001, 0, 0), 9);
        Due.fine("ten", x, x.count(3), 10);
        x.rule(1, 0, 0, 0, 0);
        Due.fine("the 12th", x, x.rule(1, 0, 0, 0, 0), 11);
        Due.fails("the 13th", x, x.rule(1, 0, 0, 0, 0), 8);
        x.rows(0, 1);
        Due.fails("another depth", x, x.rule(1, 1, 0, 0, 0), 1);
    }

    private static void amount() {
        Due.says("The AMOUNT of a RULE; 0 with a code: 9.");
        DecisionArrays x = Make.of(4, 3);
        Due.fails("none yet", x, x.amount(0), 0, 9);
        x.rule(0, 0, -1000, 5, 5);
        Due.fine("without its weight", x, x.amount(0), 2);
        Due.fails("the next", x, x.amount(1), 0, 9);
        Due.fails("-1", x, x.amount(-1), 0, 9);
        x.write(0, 0, 0, 0, 0, 4, 5);
        Due.fine("0 without a code", x, x.amount(0), 0);
    }

    private static void score() {
        Due.says("THE SCORE.");
        DecisionArrays x = Make.of(4, 3, 3);
        Due.is("without rules", x.score(), 0);
        x.rule(1, 0, 7, 0, 0);
        Due.is("one", x.score(), 7);
        x.rule(0, 0, -2, 0, 0);
        Due.is("two", x.score(), 7 - 12);
        x.write(0, 1, 0, 0, 0, 4, -3);
        Due.is("of what is there now", x.score(), 0);
        Make.holds("nothing changes", x, 0, 3, -3);
    }

    private static void bestWays() {
        Due.says("THE BEST CHOICE is made: how many ways there are. 8: more than 5000 (nothing is made).");
        DecisionArrays x = Make.of(4, 0, 0, 0, 0, 0);
        int[] widths = {10, 10, 10, 5, 0};
        for (int d = 0; d < 5; d++) {
            x.decide(0, d, 0, 0, 0);
            x.span(d, 1, widths[d], 1);
        }
        x.rule(0, 0, 1, 35, 35);
        Due.fine("5000", x, x.best(), 5000);
        Make.holds("the last way", x, 0, 10, 10, 10, 5, 0);
        x.candidate(4, 1);
        Due.fine("5000 still", x, x.best(), 5000);
        Make.holds("one candidate is taken", x, 0, 9, 10, 10, 5, 1);
        x.candidate(4, 2);
        Due.fails("10000", x, x.best(), 8);
        Make.holds("nothing is made", x, 0, 9, 10, 10, 5, 1);
        x.pin(0, 4, 0, 0, 0, true);
        Due.fine("5000 without a pinned one", x, x.best(), 5000);
        DecisionArrays y = Make.of(4, 0, 0, 0);
        int[] more = {3, 16, 16};
        y.array(4, 8);
        for (int d = 0; d < 3; d++) {
            y.decide(0, d, 0, 0, 0);
            y.span(d, 1, more[d], 1);
        }
        Due.fine("768", y, y.best(), 768);
        y.span(y.decide(1, 0, 0, 0, 0), 1, 6, 1);
        Due.fine("4608", y, y.best(), 4608);
        y.candidate(3, 7);
        Due.fails("5376", y, y.best(), 8);
    }

    private static void bestIsMade() {
        Due.says("THE BEST CHOICE is made: how many ways there are.");
        DecisionArrays x = Make.of(4, 9, 9);
        x.decide(0, 0, 0, 0, 0);
        x.decide(0, 1, 0, 0, 0);
        x.span(0, 1, 3, 1);
        x.span(1, 1, 3, 1);
        Due.fine("without rules the first way", x, x.best(), 9);
        Make.holds("the first way", x, 0, 1, 1);
        x.rule(4, 0, -1, 0, 0);
        Due.fine("the first that changes", x, x.best(), 9);
        Make.holds("the second way", x, 0, 1, 2);
        x.rule(2, 0, -1, 0, 0);
        Due.fine("the first that falls", x, x.best(), 9);
        Make.holds("the fourth way", x, 0, 2, 1);
        x.rule(5, 0, -5, 0, 0);
        Due.fine("the farthest", x, x.best(), 9);
        Make.holds("the seventh way", x, 0, 3, 1);
        x.rule(1, 0, -100, 0, 0);
        Due.fine("the first of like ones", x, x.best(), 9);
        Make.holds("the first way again", x, 0, 1, 1);
        x.rule(3, 0, 500, 3, 2);
        Due.fine("two of 3", x, x.best(), 9);
        Make.holds("the last way", x, 0, 3, 3);
        DecisionArrays y = Make.of(4, 9, 9);
        y.decide(0, 1, 0, 0, 0);
        y.candidate(0, 9);
        Due.fine("one way", y, y.best(), 1);
        Make.holds("it is what was there", y, 0, 9, 9);
    }

    /** Several RULES over the same array and over another one, whose greatest step comes and goes. */
    private static void bestWithManyRules() {
        Due.says("THE SCORE is the sum of all (of 64 bits).");
        DecisionArrays x = Make.of(4, 0, 0, 0, 0);
        Make.add(x, 4, 0, 40, 0, 0);
        for (int a = 0; a < 2; a++) {
            for (int i = 1; i <= 2; i++) {
                x.span(x.decide(a, i, 0, 0, 0), 0, 40, 10);
            }
        }
        x.rule(5, 0, -2, 0, 0);
        x.rule(5, 1, 1, 0, 0);
        x.rule(0, 1, 1, 30, 30);
        x.rule(1, 0, -1, 0, 0);
        Due.fine("625 ways", x, x.best(), 625);
        Make.holds("far in the first", x, 0, 0, 0, 40, 0);
        Make.holds("near in the second", x, 1, 0, 10, 10, 0);
        Due.is("the score", x.score(), -2 * 40 + 10 + 10 - 3);
    }

    /** 24 DECISIONS and 12 RULES over one array: each has a say. */
    private static void bestOfAFullHouse() {
        Due.says("THE BEST CHOICE is made: how many ways there are.");
        DecisionArrays x = Make.of(4, new long[24]);
        for (int d = 0; d < 24; d++) {
            x.decide(0, d, 0, 0, 0);
            x.candidate(d, d);
        }
        x.candidate(0, 23);
        x.candidate(23, 99);
        x.candidate(12, 11);
        for (int r = 0; r < 11; r++) {
            x.rule(0, 0, 0, 0, 0);
        }
        x.rule(1, 0, -1, 0, 0);
        Due.fine("8 ways", x, x.best(), 8);
        Due.fine("its first", x, x.decision(0, 3), 1);
        Due.fine("one between", x, x.decision(12, 3), 1);
        Due.fine("its last", x, x.decision(23, 3), 0);
        Due.is("two pairs", x.score(), -2);
    }

    private static void bestBesidePinnedOnes() {
        Due.says("(of a PINNED one, or one without CANDIDATES, what is there)");
        for (int pinned = 0; pinned < 3; pinned++) {
            DecisionArrays x = Make.of(4, 50, 50, 50);
            for (int d = 0; d < 3; d++) {
                x.decide(0, d, 0, 0, 0);
                x.span(d, 1, 3, 1);
            }
            x.pin(0, pinned, 0, 0, 0, true);
            x.rule(0, 0, 1, 56, 56);
            Due.fine("9 ways", x, x.best(), 9);
            for (int i = 0; i < 3; i++) {
                Due.fine("place " + i, x, x.read(0, i, 0, 0, 0, 4), i == pinned ? 50 : 3);
            }
        }
        for (int empty = 0; empty < 3; empty++) {
            DecisionArrays x = Make.of(4, 50, 50, 50);
            for (int d = 0; d < 3; d++) {
                x.decide(0, d, 0, 0, 0);
                x.span(d, 1, d == empty ? 0 : 3, 1);
            }
            x.rule(0, 0, 1, 56, 56);
            Due.fine("9 ways", x, x.best(), 9);
            for (int i = 0; i < 3; i++) {
                Due.fine("place " + i, x, x.read(0, i, 0, 0, 0, 4), i == empty ? 50 : 3);
            }
        }
    }

    private static void mark() {
        Due.says("A MARK more: how many. 8.");
        DecisionArrays x = new DecisionArrays();
        for (int m = 1; m <= 8; m++) {
            Due.fine("of nothing", x, x.mark(), m);
        }
        Due.fails("the 9th", x, x.mark(), 8);
        Due.fine("8", x, x.count(4), 8);
        Due.fine("one back", x, x.back(), 7);
        Due.fine("the 8th again", x, x.mark(), 8);
        Due.fails("the 9th again", x, x.mark(), 8);
    }

    private static void back() {
        Due.says("Back to the latest MARK, which goes: how many are left. 9: there is none.");
        DecisionArrays x = Make.of(5, 1);
        Due.fails("none yet", x, x.back(), 9);
        x.mark();
        x.write(0, 0, 0, 0, 0, 5, 2);
        x.mark();
        x.write(0, 0, 0, 0, 0, 5, 3);
        Due.fine("to the latest", x, x.back(), 1);
        Make.holds("2", x, 0, 2);
        Due.fine("to the one below", x, x.back(), 0);
        Make.holds("1", x, 0, 1);
        Due.fails("none left", x, x.back(), 9);
        x.mark();
        x.write(0, 0, 0, 0, 0, 5, 4);
        x.array(5, 1);
        x.write(1, 0, 0, 0, 0, 5, 9);
        x.mark();
        x.write(1, 0, 0, 0, 0, 5, 8);
        Due.fine("an array since the first", x, x.back(), 1);
        Make.holds("is as at the second", x, 1, 9);
        Due.fine("to the first", x, x.back(), 0);
        Make.holds("1 again", x, 0, 1);
        Make.holds("stays behind the first", x, 1, 9);
    }

    private static void backOverRows() {
        Due.says("(also PINS; arrays, DECISIONS, RULES that came since stay; elements of arrays that came since as well)");
        DecisionArrays x = Make.of(4, 1);
        x.rows(0, 2);
        x.setRow(1, 0, 0);
        x.mark();
        x.array(4, 1);
        x.setRow(1, 0, 2);
        x.setRow(1, 1, 2);
        x.rows(0, 1);
        x.setRow(3, 0, 2);
        x.candidate(x.decide(2, 0, 0, 0, 0), 7);
        x.choose(0, 0);
        x.pin(0, 0, 0, 0, 0, true);
        x.pin(2, 0, 0, 0, 0, true);
        Due.fine("back", x, x.back(), 0);
        Due.fine("a row of before", x, x.row(1, 0), 0);
        Due.fine("null of before", x, x.row(1, 1), -1);
        Due.fine("a row of an array since", x, x.row(3, 0), 2);
        Make.holds("its element", x, 2, 7);
        Due.fine("its pin", x, x.about(2, 5), 1);
        Due.fine("a pin of before goes", x, x.about(0, 5), 0);
        Due.fine("candidates stay", x, x.decision(0, 2), 1);
    }

    private static void count() {
        Due.says("How many arrays (what = 0), elements in all (1), DECISIONS (2), RULES (3), MARKS (4), ways "
            + "(5; 5001 if there are more). 9.");
        DecisionArrays x = Make.ladder(4, 3);
        x.decide(0, 0, 0, 0, 0);
        x.rule(0, 0, 1, 0, 0);
        x.rule(0, 0, 1, 0, 0);
        x.mark();
        x.mark();
        x.mark();
        int[] due = {4, 9, 1, 2, 3, 1};
        for (int what = 0; what < 6; what++) {
            Due.fine("count " + what, x, x.count(what), due[what]);
        }
        Due.fails("count 6", x, x.count(6), 9);
        Due.fails("count -1", x, x.count(-1), 9);
    }

    private static void ways() {
        Due.says("ways (5; 5001 if there are more). 9.");
        DecisionArrays x = Make.of(4, new long[24]);
        int[] widths = {10, 10, 10, 5, 1};
        for (int d = 0; d < 24; d++) {
            x.decide(0, d, 0, 0, 0);
            if (d < 5) {
                x.span(d, 1, widths[d], 1);
            }
        }
        Due.fine("5000", x, x.count(5), 5000);
        x.candidate(4, 2);
        Due.fine("10000", x, x.count(5), 5001);
        x.pin(0, 3, 0, 0, 0, true);
        Due.fine("2000", x, x.count(5), 2000);
        x.pin(0, 4, 0, 0, 0, true);
        Due.fine("1000", x, x.count(5), 1000);
        for (int d = 5; d < 24; d++) {
            x.span(d, 1, 16, 1);
        }
        Due.fine("far too many", x, x.count(5), 5001);
        for (int d = 0; d < 24; d++) {
            x.pin(0, d, 0, 0, 0, true);
        }
        Due.fine("all pinned", x, x.count(5), 1);
        x.pin(0, 23, 0, 0, 0, false);
        Due.fine("but one", x, x.count(5), 16);
        DecisionArrays y = Make.of(4, 0, 0, 0);
        int[] odd = {11, 13, 7};
        for (int d = 0; d < 3; d++) {
            y.decide(0, d, 0, 0, 0);
            y.span(d, 1, odd[d], 1);
        }
        Due.fine("1001", y, y.count(5), 1001);
        y.span(y.decide(y.array(4, 1), 0, 0, 0, 0), 1, 5, 1);
        Due.fine("5005", y, y.count(5), 5001);
    }
}
