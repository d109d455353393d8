/** Promises 34 to 36: mark, back, count. */
public final class MarksTest {
    public static void main(String[] args) {
        markAndBack();
        rowsAndPins();
        whatCameSinceStays();
        eightMarks();
        count();
        Due.end();
    }

    private static void markAndBack() {
        DecisionArrays x = new DecisionArrays();
        x.array(5, 2);
        Due.fails("35 none", x, x.back(), 9);
        Due.fine("34 mark", x, x.mark(), 1);
        x.fill(0, 0, 2, 5, 1);
        Due.fine("34 mark above", x, x.mark(), 2);
        x.fill(0, 0, 2, 5, 2);
        Due.fine("35 back", x, x.back(), 1);
        Due.fine("35 is 1", x, x.read(0, 1, 0, 0, 0, 5), 1);
        x.fill(0, 0, 2, 5, 3);
        Due.fine("34 mark again", x, x.mark(), 2);
        x.fill(0, 0, 2, 5, 4);
        Due.fine("35 back again", x, x.back(), 1);
        Due.fine("35 is 3", x, x.read(0, 0, 0, 0, 0, 5), 3);
        Due.fine("35 back to the first", x, x.back(), 0);
        Due.fine("35 is 0", x, x.read(0, 0, 0, 0, 0, 5), 0);
        Due.fails("35 none left", x, x.back(), 9);
    }

    private static void rowsAndPins() {
        DecisionArrays x = new DecisionArrays();
        x.grid(4, 2, 2, 2, 0, 0);
        x.pin(1, 0, 0, 0, 0, true);
        x.write(1, 1, 0, 0, 0, 4, 6);
        x.mark();
        x.pin(1, 0, 0, 0, 0, false);
        x.write(1, 0, 0, 0, 0, 4, 5);
        x.write(1, 1, 0, 0, 0, 4, 5);
        x.pin(1, 1, 0, 0, 0, true);
        x.setRow(0, 0, -1);
        x.setRow(0, 1, 1);
        Due.fine("35 back", x, x.back(), 0);
        Due.fine("35 row 0", x, x.row(0, 0), 1);
        Due.fine("35 row 1", x, x.row(0, 1), 2);
        Due.fine("35 the pinned one", x, x.read(1, 0, 0, 0, 0, 4), 0);
        Due.fails("35 is pinned again", x, x.write(1, 0, 0, 0, 0, 4, 5), 6);
        Due.fine("35 also one pinned since", x, x.read(1, 1, 0, 0, 0, 4), 6);
        Due.fine("35 is free again", x, x.write(1, 1, 0, 0, 0, 4, 5), 0);
    }

    private static void whatCameSinceStays() {
        DecisionArrays x = new DecisionArrays();
        x.array(4, 2);
        x.decide(0, 0, 0, 0, 0);
        x.mark();
        x.array(4, 2);
        x.fill(1, 0, 2, 4, 8);
        x.pin(1, 0, 0, 0, 0, true);
        x.rows(0, 1);
        x.setRow(2, 0, 1);
        x.decide(0, 1, 0, 0, 0);
        x.span(0, 1, 3, 1);
        x.choose(0, 2);
        x.rule(0, 0, 1, 5, 5);
        Due.fine("35 back", x, x.back(), 0);
        Due.fine("35 arrays stay", x, x.count(0), 3);
        Due.fine("35 elements stay", x, x.read(1, 0, 0, 0, 0, 4), 8);
        Due.fine("35 pins of them stay", x, x.about(1, 5), 1);
        Due.fine("35 rows of them stay", x, x.row(2, 0), 1);
        Due.fine("35 decisions stay", x, x.count(2), 2);
        Due.fine("35 candidates stay", x, x.decision(0, 2), 3);
        Due.fine("35 rules stay", x, x.count(3), 1);
        Due.fine("35 an element of before", x, x.read(0, 0, 0, 0, 0, 4), 0);
        Due.is("35 amount", x.amount(0), 5);
    }

    private static void eightMarks() {
        DecisionArrays x = new DecisionArrays();
        x.array(4, 1);
        for (int m = 0; m < 8; m++) {
            x.fill(0, 0, 1, 4, m);
            Due.fine("34 one of 8", x, x.mark(), m + 1);
            x.array(4, 1);
        }
        x.fill(0, 0, 1, 4, 99);
        Due.fails("34 the 9th", x, x.mark(), 8);
        Due.fine("36 eight", x, x.count(4), 8);
        Due.fine("34 nothing changed", x, x.read(0, 0, 0, 0, 0, 4), 99);
        for (int m = 7; m >= 0; m--) {
            Due.fine("35 one less", x, x.back(), m);
            Due.fine("35 as it was", x, x.read(0, 0, 0, 0, 0, 4), m);
        }
    }

    private static void count() {
        DecisionArrays x = new DecisionArrays();
        x.grid(4, 2, 3, 4, 0, 0);
        x.rows(0, 7);
        Due.fine("36 arrays", x, x.count(0), 5);
        Due.fine("36 elements, rows too", x, x.count(1), 22);
        x.decide(1, 0, 0, 0, 0);
        x.decide(1, 1, 0, 0, 0);
        Due.fine("36 decisions", x, x.count(2), 2);
        x.rule(1, 1, 1, 0, 0);
        Due.fine("36 rules", x, x.count(3), 1);
        x.mark();
        x.mark();
        x.mark();
        Due.fine("36 marks", x, x.count(4), 3);
        Due.fine("36 one way", x, x.count(5), 1);
        x.span(0, 1, 7, 1);
        Due.fine("36 seven ways", x, x.count(5), 7);
        x.span(1, 1, 3, 1);
        Due.fine("36 21 ways", x, x.count(5), 21);
        Due.fails("36 what 6", x, x.count(6), 9);
        Due.fails("36 what -1", x, x.count(-1), 9);
    }
}
