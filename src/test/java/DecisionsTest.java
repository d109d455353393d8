/** Promises 24 to 29: decide, candidate, span, choose, decision, candidateOf. */
public final class DecisionsTest {
    public static void main(String[] args) {
        decide();
        candidate();
        candidateThings();
        span();
        spanEdges();
        choose();
        decision();
        candidateOf();
        Due.end();
    }

    private static void decide() {
        DecisionArrays x = new DecisionArrays();
        x.grid(4, 2, 2, 20, 0, 0);
        x.rows(1, 1);
        Due.fine("24 first", x, x.decide(0, 1, 3, 0, 0), 0);
        Due.fine("24 second", x, x.decide(1, 3, 0, 0, 0), 1);
        Due.fine("24 the first again", x, x.decide(2, 3, 9, 9, 9), 0);
        Due.fine("24 array", x, x.decision(0, 0), 2);
        Due.fine("24 place", x, x.decision(0, 1), 3);
        x.setRow(0, 1, 1);
        Due.fine("24 whatever becomes of rows", x, x.decide(0, 1, 3, 0, 0), 1);
        Due.fine("24 still there", x, x.decision(0, 0), 2);
        Due.fails("24 no array", x, x.decide(4, 0, 0, 0, 0), 5);
        Due.fails("24 array -1", x, x.decide(-1, 0, 0, 0, 0), 5);
        Due.fails("24 index", x, x.decide(0, 2, 0, 0, 0), 2);
        Due.fails("24 index below", x, x.decide(0, 0, 20, 0, 0), 2);
        Due.fails("24 null", x, x.decide(3, 0, 0, 0, 0), 3);
        x.pin(1, 4, 0, 0, 0, true);
        Due.fine("24 a pinned one", x, x.decide(1, 4, 0, 0, 0), 2);
        for (int d = 3; d < 22; d++) {
            Due.fine("24 more", x, x.decide(2, d + (d < 20 ? 0 : -20), 0, 0, 0), d == 3 ? 0 : d - 1);
        }
        Due.fine("24 21 of them", x, x.count(2), 21);
        x.decide(1, 10, 0, 0, 0);
        x.decide(1, 11, 0, 0, 0);
        Due.fine("24 the 24th", x, x.decide(1, 12, 0, 0, 0), 23);
        Due.fails("24 the 25th", x, x.decide(1, 13, 0, 0, 0), 8);
        Due.fails("24 index ahead of bound", x, x.decide(1, 20, 0, 0, 0), 2);
        Due.fine("24 one that is", x, x.decide(1, 12, 0, 0, 0), 23);
        Due.fine("24 twenty-four", x, x.count(2), 24);
    }

    private static void candidate() {
        DecisionArrays x = new DecisionArrays();
        x.array(2, 2);
        x.decide(0, 1, 0, 0, 0);
        for (int c = 0; c < 16; c++) {
            Due.fine("25 candidate", x, x.candidate(0, 100 - c), c + 1);
        }
        Due.fails("25 the 17th", x, x.candidate(0, 0), 8);
        Due.fails("25 one that is there", x, x.candidate(0, 100), 9);
        Due.fails("25 bits ahead of bound", x, x.candidate(0, 128), 9);
        Due.fails("25 no decision", x, x.candidate(1, 0), 9);
        Due.fails("25 decision -1", x, x.candidate(-1, 0), 9);
        for (int c = 0; c < 16; c++) {
            Due.fine("25 in their order", x, x.candidateOf(0, c), 100 - c);
        }
        x.array(6, 1);
        x.decide(1, 0, 0, 0, 0);
        Due.fine("25 0", x, x.candidate(1, 0), 1);
        Due.fine("25 - 0", x, x.candidate(1, Integer.MIN_VALUE), 2);
        Due.fails("25 - 0 again", x, x.candidate(1, Integer.MIN_VALUE), 9);
        Due.fails("25 the no-number", x, x.candidate(1, 0x7FC00000L), 9);
        Due.fails("25 another no-number", x, x.candidate(1, -1), 9);
        Due.fails("25 no float", x, x.candidate(1, 1L << 31), 9);
        Due.fine("25 endless", x, x.candidate(1, 0x7F800000L), 3);
        x.array(7, 1);
        x.decide(2, 0, 0, 0, 0);
        Due.fails("25 no-number of doubles", x, x.candidate(2, 0x7FF8000000000000L), 9);
        Due.fails("25 another one", x, x.candidate(2, Long.MAX_VALUE), 9);
        Due.fine("25 a double", x, x.candidate(2, 0x7FC00000L), 1);
        x.array(0, 1);
        x.decide(3, 0, 0, 0, 0);
        Due.fine("25 not", x, x.candidate(3, 0), 1);
        Due.fine("25 so", x, x.candidate(3, 1), 2);
        Due.fails("25 2", x, x.candidate(3, 2), 9);
        Due.fine("25 nothing is written", x, x.read(0, 1, 0, 0, 0, 2), 0);
    }

    private static void candidateThings() {
        DecisionArrays x = new DecisionArrays();
        x.things(3, 1);
        x.decide(0, 0, 0, 0, 0);
        Due.fine("25 of the class", x, x.candidate(0, 3), 1);
        Due.fine("25 null", x, x.candidate(0, 0), 2);
        Due.fails("25 another class", x, x.candidate(0, 4), 7);
        Due.fails("25 thing 1001", x, x.candidate(0, 1001), 9);
        Due.fails("25 there ahead of class", x, x.candidate(0, 3), 9);
        for (int c = 2; c < 16; c++) {
            x.candidate(0, 3 + 7 * c);
        }
        Due.fails("25 class ahead of bound", x, x.candidate(0, 4), 7);
        Due.fails("25 bound", x, x.candidate(0, 997), 8);
        Due.fails("26 things", x, x.span(0, 1, 2, 1), 9);
        x.array(8, 1);
        x.decide(1, 0, 0, 0, 0);
        Due.fine("25 any class", x, x.candidate(1, 4), 1);
        Due.fine("25 any other class", x, x.candidate(1, 5), 2);
    }

    private static void span() {
        DecisionArrays x = new DecisionArrays();
        x.array(4, 3);
        x.decide(0, 0, 0, 0, 0);
        Due.fine("26 span", x, x.span(0, -2, 3, 2), 3);
        long[] due = {-2, 0, 2};
        for (int c = 0; c < 3; c++) {
            Due.fine("26 candidate", x, x.candidateOf(0, c), due[c]);
        }
        Due.fine("26 only new ones", x, x.span(0, 0, 3, 1), 5);
        Due.fine("26 the new one", x, x.candidateOf(0, 3), 1);
        Due.fine("26 the last one", x, x.candidateOf(0, 4), 3);
        Due.fine("26 low above high", x, x.span(0, 9, 8, 1), 5);
        Due.fine("26 one", x, x.span(0, 9, 9, Long.MAX_VALUE), 6);
        Due.fails("26 11 more", x, x.span(0, 20, 30, 1), 8);
        Due.fine("26 nothing changed", x, x.decision(0, 2), 6);
        Due.fine("26 10 more", x, x.span(0, 20, 29, 1), 16);
        Due.fine("26 sixteen that are there", x, x.span(0, 20, 29, 3), 16);
        Due.fails("26 one too many", x, x.span(0, 29, 30, 1), 8);
        Due.fails("26 no decision", x, x.span(1, 0, 1, 1), 9);
        Due.fails("26 decision -1", x, x.span(-1, 0, 1, 1), 9);
        Due.fails("26 step 0", x, x.span(0, 0, 1, 0), 9);
        Due.fails("26 step -1", x, x.span(0, 0, 1, -1), 9);
        Due.fails("26 low", x, x.span(0, -1L << 32, 1, 1), 9);
        Due.fails("26 high", x, x.span(0, 0, 1L << 31, 1), 9);
        Due.fails("26 high ahead of bound", x, x.span(0, 0, 1L << 40, 1), 9);
    }

    private static void spanEdges() {
        DecisionArrays x = new DecisionArrays();
        x.array(5, 4);
        for (int d = 0; d < 4; d++) {
            x.decide(0, d, 0, 0, 0);
        }
        Due.fine("26 whole width", x, x.span(0, Long.MIN_VALUE, Long.MAX_VALUE, Long.MAX_VALUE), 3);
        Due.fine("26 its last", x, x.candidateOf(0, 2), Long.MAX_VALUE - 1);
        Due.fails("26 far too many", x, x.span(1, Long.MIN_VALUE, Long.MAX_VALUE, 1), 8);
        Due.fine("26 none of them", x, x.decision(1, 2), 0);
        Due.fine("26 up to the greatest", x, x.span(1, Long.MAX_VALUE - 15, Long.MAX_VALUE, 1), 16);
        Due.fine("26 from the least", x, x.span(2, Long.MIN_VALUE, Long.MIN_VALUE + 6, 5), 2);
        x.array(7, 1);
        x.array(6, 1);
        x.array(0, 1);
        x.array(8, 1);
        for (int a = 1; a <= 4; a++) {
            Due.fails("26 kind", x, x.span(x.decide(a, 0, 0, 0, 0), 0, 1, 1), 9);
        }
        x.array(1, 1);
        int d = x.decide(5, 0, 0, 0, 0);
        Due.fails("26 chars below 0", x, x.span(d, -1, 1, 1), 9);
        Due.fine("26 chars", x, x.span(d, 65530, 65535, 2), 3);
        x.array(3, 1);
        d = x.decide(6, 0, 0, 0, 0);
        Due.fine("26 shorts", x, x.span(d, -32768, 32767, 32767), 3);
    }

    private static void choose() {
        DecisionArrays x = new DecisionArrays();
        x.grid(4, 2, 1, 3, 0, 0);
        x.decide(0, 0, 2, 0, 0);
        x.span(0, 7, 9, 1);
        Due.fine("27 choose", x, x.choose(0, 1), 0);
        Due.fine("27 is", x, x.read(1, 2, 0, 0, 0, 4), 8);
        x.setRow(0, 0, -1);
        Due.fine("27 without its row", x, x.choose(0, 2), 0);
        Due.fine("27 is there", x, x.read(1, 2, 0, 0, 0, 4), 9);
        Due.fails("27 no candidate", x, x.choose(0, 3), 9);
        Due.fails("27 candidate -1", x, x.choose(0, -1), 9);
        Due.fails("27 no decision", x, x.choose(1, 0), 9);
        Due.fails("27 decision -1", x, x.choose(-1, 0), 9);
        x.pin(1, 2, 0, 0, 0, true);
        Due.fails("27 pinned", x, x.choose(0, 0), 6);
        Due.fails("27 pinned, what is there", x, x.choose(0, 2), 6);
        Due.fails("27 candidate ahead of pin", x, x.choose(0, 3), 9);
        Due.fine("27 nothing changed", x, x.read(1, 2, 0, 0, 0, 4), 9);
    }

    private static void decision() {
        DecisionArrays x = new DecisionArrays();
        x.array(6, 1);
        x.array(6, 4);
        x.decide(1, 3, 0, 0, 0);
        Due.fine("28 array", x, x.decision(0, 0), 1);
        Due.fine("28 place", x, x.decision(0, 1), 3);
        Due.fine("28 candidates", x, x.decision(0, 2), 0);
        Due.fine("28 none", x, x.decision(0, 3), -2);
        x.candidate(0, Integer.MIN_VALUE);
        Due.fine("28 0 is not - 0", x, x.decision(0, 3), -2);
        x.candidate(0, 0);
        Due.fine("28 the second", x, x.decision(0, 3), 1);
        Due.fine("28 two", x, x.decision(0, 2), 2);
        x.choose(0, 0);
        Due.fine("28 the first", x, x.decision(0, 3), 0);
        Due.fails("28 what 4", x, x.decision(0, 4), 9);
        Due.fails("28 what -1", x, x.decision(0, -1), 9);
        Due.fails("28 no decision", x, x.decision(1, 0), 9);
        Due.fails("28 decision -1", x, x.decision(-1, 0), 9);
    }

    private static void candidateOf() {
        DecisionArrays x = new DecisionArrays();
        x.array(5, 2);
        x.decide(0, 0, 0, 0, 0);
        x.decide(0, 1, 0, 0, 0);
        x.candidate(0, Long.MIN_VALUE);
        x.candidate(1, 5);
        x.candidate(1, -5);
        Due.fine("29 of the first", x, x.candidateOf(0, 0), Long.MIN_VALUE);
        Due.fine("29 of the second", x, x.candidateOf(1, 1), -5);
        Due.fails("29 no candidate", x, x.candidateOf(0, 1), 0, 9);
        Due.fails("29 candidate -1", x, x.candidateOf(1, -1), 0, 9);
        Due.fails("29 no decision", x, x.candidateOf(2, 0), 0, 9);
        Due.fails("29 decision -1", x, x.candidateOf(-1, 0), 0, 9);
    }
}
