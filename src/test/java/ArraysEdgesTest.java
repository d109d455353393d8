/** The edges that "Terms" names for arrays, ROWS, PATHS and codes, each behind its sentence. */
public final class ArraysEdgesTest {
    public static void main(String[] args) {
        sixtyArrays();
        depths();
        lengths();
        classes();
        firstElements();
        rowsAreAlike();
        fourThousand();
        lastOfFourThousand();
        pathsCount();
        noSuchArray();
        numbersNotTold();
        nullOnThePath();
        indexNotThere();
        twoBeforeThree();
        notAlike();
        lengthBelowZero();
        pinnedOrOfAnotherClass();
        firstOfSeveral();
        boundPassed();
        answers();
        codeOfTheLatest();
        Due.end();
    }

    private static void sixtyArrays() {
        Due.says("ARRAYS have numbers from 0 on, 60 at most");
        DecisionArrays x = new DecisionArrays();
        Due.fine("the first", x, x.array(4, 1), 0);
        Due.fine("the second", x, x.things(6, 1), 1);
        Due.fine("the third", x, x.rows(0, 1), 2);
        Due.fine("the fourth, with a row", x, x.grid(4, 2, 1, 1, 0, 0), 3);
        Due.fine("the sixth", x, x.copy(0, 1), 5);
        Due.fine("the seventh, with a row", x, x.deep(3), 6);
        Due.fine("the ninth", x, x.array(4, 1), 8);
        for (int a = 9; a < 59; a++) {
            x.array(4, 0);
        }
        Due.fails("two where one is left", x, x.grid(4, 2, 1, 1, 0, 0), 8);
        Due.fails("two where one is left", x, x.deep(3), 8);
        Due.fine("59", x, x.count(0), 59);
        Due.fine("the 60th", x, x.array(4, 0), 59);
        Due.fails("array", x, x.array(4, 0), 8);
        Due.fails("things", x, x.things(0, 0), 8);
        Due.fails("rows", x, x.rows(0, 0), 8);
        Due.fails("grid", x, x.grid(4, 1, 0, 0, 0, 0), 8);
        Due.fails("copy", x, x.copy(0, 0), 8);
        Due.fails("deep", x, x.deep(59), 8);
        Due.fine("60", x, x.count(0), 60);
        Due.fine("the 60th is there", x, x.about(59, 2), 0);
        Due.fails("a 61st is not", x, x.about(60, 2), 5);
    }

    private static void depths() {
        Due.says("a DEPTH 1 .. 4");
        DecisionArrays x = Make.ladder(5, 1);
        for (int a = 0; a < 4; a++) {
            Due.fine("depth of " + a, x, x.about(a, 1), a + 1);
        }
        Due.fails("rows of depth 4", x, x.rows(3, 0), 9);
        for (int depth : new int[] {0, 5, -1, Integer.MIN_VALUE, Integer.MAX_VALUE}) {
            Due.fails("grid of depth " + depth, x, x.grid(5, depth, 1, 1, 1, 1), 9);
        }
        for (int depth = 1; depth <= 4; depth++) {
            int a = x.count(0);
            Due.fine("grid of depth " + depth, x, x.grid(5, depth, 1, 1, 1, 1), a);
            Due.fine("its depth", x, x.about(a, 1), depth);
            Due.fine("all its rows", x, x.count(0), a + depth);
        }
    }

    private static void lengths() {
        Due.says("a length 0 .. 200");
        DecisionArrays x = new DecisionArrays();
        Due.fine("array of 0", x, x.array(4, 0), 0);
        Due.fine("array of 200", x, x.array(4, 200), 1);
        Due.fails("array of 201", x, x.array(4, 201), 8);
        Due.fine("things of 200", x, x.things(0, 200), 2);
        Due.fails("things of 201", x, x.things(0, 201), 8);
        Due.fine("rows of 200", x, x.rows(0, 200), 3);
        Due.fails("rows of 201", x, x.rows(0, 201), 8);
        Due.fine("grid of 200", x, x.grid(4, 1, 200, 0, 0, 0), 4);
        Due.fails("grid of 201", x, x.grid(4, 1, 201, 0, 0, 0), 8);
        Due.fails("its rows of 201", x, x.grid(4, 2, 1, 201, 0, 0), 8);
        Due.fails("theirs of 201", x, x.grid(4, 3, 1, 1, 201, 0), 8);
        Due.fails("the lowest of 201", x, x.grid(4, 4, 1, 1, 1, 201), 8);
        Due.fine("the lowest of 200", x, x.grid(4, 4, 1, 1, 1, 200), 5);
        Due.fine("copy of 200", x, x.copy(0, 200), 9);
        Due.fails("copy of 201", x, x.copy(0, 201), 8);
        Due.fine("place 199", x, x.write(9, 199, 0, 0, 0, 4, 1), 0);
        Due.fails("place 200", x, x.write(9, 200, 0, 0, 0, 4, 1), 2);
        Due.fails("place 0 of none", x, x.write(0, 0, 0, 0, 0, 4, 1), 2);
        Due.fails("row 0 of none", x, x.row(x.rows(0, 0), 0), -1, 2);
    }

    private static void classes() {
        Due.says("a CLASS (0 .. 6, of KIND 8; else -1: any THING)");
        DecisionArrays x = new DecisionArrays();
        for (int cls : new int[] {-1, 7, Integer.MIN_VALUE, Integer.MAX_VALUE}) {
            Due.fails("class " + cls, x, x.things(cls, 1), 9);
        }
        for (int cls = 0; cls <= 6; cls++) {
            Due.fine("class " + cls, x, x.about(x.things(cls, 1), 3), cls);
        }
        for (int kind = 0; kind <= 8; kind++) {
            Due.fine("no class of kind " + kind, x, x.about(x.array(kind, 1), 3), -1);
        }
        int any = x.array(8, 7);
        for (int t = 994; t <= 1000; t++) {
            Due.fine("any thing " + t, x, x.write(any, t - 994, 0, 0, 0, 8, t), 0);
        }
        Due.fine("rows of a class", x, x.about(x.rows(6, 1), 3), 6);
        Due.fine("rows of no class", x, x.about(x.rows(any, 1), 3), -1);
    }

    private static void firstElements() {
        Due.says("Elements of one of DEPTH 1 are values (at first BITS 0); of others ROWS: numbers of arrays of the "
            + "same KIND, CLASS and a DEPTH one less, or none (-1: null, at first).");
        DecisionArrays x = new DecisionArrays();
        for (int kind = 0; kind <= 8; kind++) {
            x.array(kind, 3);
            Make.holds("kind " + kind, x, kind, 0, 0, 0);
        }
        x.things(3, 2);
        Make.holds("things", x, 9, 0, 0);
        x.fill(0, 0, 3, 0, 1);
        x.copy(0, 5);
        Make.holds("longer copy", x, 10, 1, 1, 1, 0, 0);
        x.rows(0, 2);
        Due.fine("null", x, x.row(11, 0), -1);
        Due.fine("null too", x, x.row(11, 1), -1);
        Due.fine("both null", x, x.about(11, 4), 2);
        x.copy(11, 4);
        Due.fine("longer copy of rows", x, x.about(12, 4), 4);
        x.grid(7, 3, 1, 1, 2, 0);
        Make.holds("grid", x, 15, 0, 0);
    }

    private static void rowsAreAlike() {
        Due.says("numbers of arrays of the same KIND, CLASS and a DEPTH one less, or none");
        for (int from = 0; from <= 8; from++) {
            for (int to = 0; to <= 8; to++) {
                DecisionArrays x = new DecisionArrays();
                x.array(from, 1);
                x.array(to, 1);
                x.rows(1, 1);
                Due.is("kind " + from + " in " + to, x.setRow(2, 0, 0), from == to ? 0 : -1);
            }
        }
        for (int from = -1; from <= 6; from++) {
            for (int to = -1; to <= 6; to++) {
                DecisionArrays x = new DecisionArrays();
                Due.is("array 0", from < 0 ? x.array(8, 1) : x.things(from, 1), 0);
                Due.is("array 1", to < 0 ? x.array(8, 1) : x.things(to, 1), 1);
                x.rows(1, 1);
                Due.is("class " + from + " in " + to, x.setRow(2, 0, 0), from == to ? 0 : -1);
            }
        }
        for (int r = 0; r < 4; r++) {
            for (int a = 1; a < 4; a++) {
                DecisionArrays x = Make.ladder(4, 1);
                Due.is("depth " + (r + 1) + " in " + (a + 1), x.setRow(a, 0, r), r == a - 1 ? 0 : -1);
                Due.is("none in " + (a + 1), x.setRow(a, 1, -1), 0);
            }
        }
    }

    private static void fourThousand() {
        Due.says("All together have 4000 elements at most, ROWS too.");
        DecisionArrays x = new DecisionArrays();
        for (int a = 0; a < 10; a++) {
            x.array(5, 200);
        }
        for (int a = 10; a < 19; a++) {
            x.rows(0, 200);
        }
        Due.fine("3800, rows too", x, x.count(1), 3800);
        Due.fine("198 more", x, x.array(5, 198), 19);
        Due.fails("array", x, x.array(5, 3), 8);
        Due.fails("things", x, x.things(0, 3), 8);
        Due.fails("rows", x, x.rows(0, 3), 8);
        Due.fails("grid", x, x.grid(5, 1, 3, 0, 0, 0), 8);
        Due.fails("grid with its row", x, x.grid(5, 2, 1, 2, 0, 0), 8);
        Due.fails("copy", x, x.copy(0, 3), 8);
        Due.fails("deep", x, x.deep(0), 8);
        Due.fine("still 3998", x, x.count(1), 3998);
        Due.fine("grid with its row fits", x, x.grid(5, 2, 1, 1, 0, 0), 20);
        Due.fine("4000", x, x.count(1), 4000);
        Due.fails("one more", x, x.array(5, 1), 8);
        Due.fails("one more row", x, x.rows(0, 1), 8);
        Due.fine("none more", x, x.rows(0, 0), 22);
        Due.fine("the last element", x, x.write(21, 0, 0, 0, 0, 5, -1), 0);
        Make.holds("the last element", x, 21, -1);
        Due.fine("the row before it", x, x.row(20, 0), 21);
    }

    /** Calls at the very end of the room, where one step more would be outside. */
    private static void lastOfFourThousand() {
        Due.says("All together have 4000 elements at most, ROWS too.");
        DecisionArrays x = new DecisionArrays();
        x.array(8, 99);
        x.rows(x.things(3, 0), 100);
        for (int a = 3; a < 22; a++) {
            x.array(4, a < 21 ? 200 : 198);
        }
        x.things(3, 3);
        Due.fine("4000", x, x.count(1), 4000);
        Due.fine("fill", x, x.fill(22, 0, 3, 8, 3), 3);
        x.write(0, 98, 0, 0, 0, 8, 10);
        Due.fine("move there", x, x.move(0, 98, 22, 2, 1), 1);
        Due.fine("move within", x, x.move(22, 1, 22, 0, 2), 2);
        Make.holds("moved", x, 22, 3, 10, 10);
        Due.fine("move away", x, x.move(22, 0, 0, 96, 3), 3);
        x.write(22, 0, 0, 0, 0, 8, 17);
        Due.fine("sort", x, x.sort(22, 0, 3), 2);
        Make.holds("sorted", x, 22, 10, 10, 17);
        Due.fine("search", x, x.search(22, 17), 2);
        Due.fine("search above", x, x.search(22, 18), -103);
        Due.fine("the same", x, x.same(22, 22), 1);
        Due.fine("not the same", x, x.same(22, 1), 0);
        Due.fine("hash", x, x.hash(22), 29791 + 961 * 10 + 31 * 10 + 17);
        Due.fine("column", x, x.column(8, 101), 22002);
        Due.fine("behind the last", x, x.column(8, 102), -2);
        for (int sort = 0; sort <= 5; sort++) {
            x.rule(sort, 22, 1, 17, 17);
        }
        Due.is("score", x.score(), 20 + 1 + 0 + 16 + 1 + 7);
        x.candidate(x.decide(22, 2, 0, 0, 0), 24);
        x.candidate(0, 3);
        x.candidate(0, 10);
        Due.fine("mark", x, x.mark(), 1);
        Due.fine("best", x, x.best(), 3);
        Make.holds("the best", x, 22, 10, 10, 3);
        Due.fine("pin", x, x.pin(22, 2, 0, 0, 0, true), 0);
        Due.fine("pinned", x, x.about(22, 5), 1);
        Due.fine("back", x, x.back(), 0);
        Make.holds("as it was", x, 22, 10, 10, 17);
        Due.fine("not pinned", x, x.about(22, 5), 0);
        Due.fine("nothing to copy", x, x.copy(22, 0), 23);
        Due.fine("rows", x, x.about(2, 4), 100);
    }

    private static void pathsCount() {
        Due.says("AN ELEMENT is told by an array and a PATH i, j, k, l, of which as many count as the array is deep: "
            + "ROW i, of that ROW j, and so on; the last one is its place in an array of DEPTH 1.");
        int[] free = {0, 9, -1, Integer.MIN_VALUE, Integer.MAX_VALUE};
        for (int rest : free) {
            DecisionArrays x = Make.ladder(4, 3);
            Due.fine("depth 1", x, x.place(0, 2, rest, rest, rest), 2);
            Due.fine("depth 2", x, x.place(1, 1, 2, rest, rest), 2);
            Due.fine("depth 3", x, x.place(2, 1, 1, 2, rest), 2);
            Due.fine("depth 4", x, x.place(3, 1, 1, 1, 2), 2);
            Due.fine("write", x, x.write(1, 1, 2, rest, rest, 4, 8), 0);
            Due.fine("read", x, x.read(2, 1, 1, 2, rest, 4), 8);
            Due.fine("pin", x, x.pin(2, 1, 1, 2, rest, true), 0);
            Due.fine("decide", x, x.decide(0, 2, rest, rest, rest), 0);
            Due.fine("decide again", x, x.decide(3, 1, 1, 1, 2), 0);
        }
    }

    private static void noSuchArray() {
        Due.says("5 there is no such array;");
        for (int a : new int[] {4, -1, Integer.MIN_VALUE, Integer.MAX_VALUE}) {
            DecisionArrays x = Make.ladder(4, 3);
            Due.fails("rows", x, x.rows(a, 1), 5);
            Due.fails("about", x, x.about(a, 0), 5);
            Due.fails("row", x, x.row(a, 0), -1, 5);
            Due.fails("setRow", x, x.setRow(a, 0, 0), 5);
            Due.fails("read", x, x.read(a, 0, 0, 0, 0, 4), 0, 5);
            Due.fails("write", x, x.write(a, 0, 0, 0, 0, 4, 0), 5);
            Due.fails("place", x, x.place(a, 0, 0, 0, 0), 5);
            Due.fails("pin", x, x.pin(a, 0, 0, 0, 0, true), 5);
            Due.fails("fill", x, x.fill(a, 0, 0, 4, 0), 5);
            Due.fails("move from", x, x.move(a, 0, 0, 0, 0), 5);
            Due.fails("move to", x, x.move(0, 0, a, 0, 0), 5);
            Due.fails("copy", x, x.copy(a, 0), 5);
            Due.fails("deep", x, x.deep(a), 5);
            Due.fails("sort", x, x.sort(a, 0, 0), 5);
            Due.fails("search", x, x.search(a, 0), 5);
            Due.fails("same, first", x, x.same(a, 0), 5);
            Due.fails("same, second", x, x.same(0, a), 5);
            Due.fails("same, both", x, x.same(a, a), 5);
            Due.fails("hash", x, x.hash(a), 0, 5);
            Due.fails("decide", x, x.decide(a, 0, 0, 0, 0), 5);
            Due.fails("rule", x, x.rule(0, a, 1, 0, 0), 5);
            if (a != -1) {
                Due.fails("setRow to it", x, x.setRow(1, 0, a), 5);
            }
        }
    }

    private static void numbersNotTold() {
        Due.says("9 a number is none that is told (a kind, a DEPTH, ..; BITS that are none);");
        for (int wild : new int[] {-1, Integer.MIN_VALUE, Integer.MAX_VALUE}) {
            DecisionArrays x = Make.of(4, 0);
            x.candidate(x.decide(0, 0, 0, 0, 0), 1);
            x.rule(0, 0, 1, 0, 0);
            Due.fails("about what", x, x.about(0, wild), 9);
            Due.fails("decision what", x, x.decision(0, wild), 9);
            Due.fails("count what", x, x.count(wild), 9);
            Due.fails("a class", x, x.things(wild, 1), 9);
            Due.fails("a depth", x, x.grid(4, wild, 1, 1, 1, 1), 9);
            Due.fails("a sort", x, x.rule(wild, 0, 1, 0, 0), 9);
            Due.fails("a decision, candidate", x, x.candidate(wild, 1), 9);
            Due.fails("a decision, span", x, x.span(wild, 1, 1, 1), 9);
            Due.fails("a decision, choose", x, x.choose(wild, 0), 9);
            Due.fails("a decision, decision", x, x.decision(wild, 0), 9);
            Due.fails("a decision, candidateOf", x, x.candidateOf(wild, 0), 0, 9);
            Due.fails("a candidate, choose", x, x.choose(0, wild), 9);
            Due.fails("a candidate, candidateOf", x, x.candidateOf(0, wild), 0, 9);
            Due.fails("a rule", x, x.amount(wild), 0, 9);
        }
    }

    private static void nullOnThePath() {
        Due.says("3 on the PATH a ROW is null;");
        for (int a = 1; a < 4; a++) {
            DecisionArrays x = Make.ladder(4, 1);
            Due.fails("read", x, x.read(a, 0, 0, 0, 0, 4), 0, 3);
            Due.fails("write", x, x.write(a, 0, 0, 0, 0, 4, 0), 3);
            Due.fails("place", x, x.place(a, 0, 0, 0, 0), 3);
            Due.fails("pin", x, x.pin(a, 0, 0, 0, 0, true), 3);
            Due.fails("decide", x, x.decide(a, 0, 0, 0, 0), 3);
            Due.fine("not null", x, x.place(a, 1, a == 1 ? 0 : 1, a == 2 ? 0 : 1, 0), 0);
        }
        DecisionArrays x = Make.ladder(4, 1);
        Due.fails("the second row", x, x.place(3, 1, 0, 1, 0), 3);
        Due.fails("the third row", x, x.place(3, 1, 1, 0, 0), 3);
    }

    private static void indexNotThere() {
        Due.says("2 an index is not there");
        for (int wild : new int[] {-1, Integer.MIN_VALUE, Integer.MAX_VALUE, 2}) {
            for (int step = 0; step < 4; step++) {
                DecisionArrays x = Make.ladder(4, 2);
                int[] p = {1, 1, 1, 1};
                p[step] = wild;
                Due.fails("read", x, x.read(3, p[0], p[1], p[2], p[3], 4), 0, 2);
                Due.fails("write", x, x.write(3, p[0], p[1], p[2], p[3], 4, 0), 2);
                Due.fails("place", x, x.place(3, p[0], p[1], p[2], p[3]), 2);
                Due.fails("pin", x, x.pin(3, p[0], p[1], p[2], p[3], true), 2);
                Due.fails("decide", x, x.decide(3, p[0], p[1], p[2], p[3]), 2);
            }
            DecisionArrays x = Make.ladder(4, 2);
            Due.fails("row", x, x.row(1, wild), -1, 2);
            Due.fails("setRow", x, x.setRow(1, wild, 0), 2);
        }
    }

    private static void twoBeforeThree() {
        Due.says("(each step of the PATH: 2 before 3 of the next)");
        DecisionArrays x = Make.ladder(4, 2);
        Due.fails("i is not there", x, x.place(3, 2, 0, 0, 9), 2);
        Due.fails("i is null, j is not there", x, x.place(3, 0, 9, 0, 0), 3);
        Due.fails("j is not there, k is null", x, x.place(3, 1, 2, 0, 0), 2);
        Due.fails("j is null, k is not there", x, x.place(3, 1, 0, 9, 0), 3);
        Due.fails("k is not there", x, x.place(3, 1, 1, 2, 0), 2);
        Due.fails("k is null, l is not there", x, x.place(3, 1, 1, 0, 9), 3);
        Due.fails("l is not there", x, x.place(3, 1, 1, 1, 2), 2);
        Due.fails("read", x, x.read(3, 1, 0, 9, 0, 4), 0, 3);
        Due.fails("write", x, x.write(3, 1, 2, 0, 0, 4, 0), 2);
        Due.fails("pin", x, x.pin(3, 1, 0, 9, 0, true), 3);
        Due.fails("decide", x, x.decide(3, 1, 2, 0, 0), 2);
    }

    private static void notAlike() {
        Due.says("1 kinds that do not widen, or arrays that are not alike;");
        DecisionArrays x = Make.ladder(4, 2);
        int longs = x.array(5, 2);
        Due.fails("read", x, x.read(longs, 0, 0, 0, 0, 4), 0, 1);
        Due.fails("write", x, x.write(0, 0, 0, 0, 0, 5, 0), 1);
        Due.fails("fill", x, x.fill(0, 0, 2, 5, 0), 1);
        Due.fails("fill rows", x, x.fill(1, 0, 2, 4, 0), 1);
        Due.fails("move", x, x.move(0, 0, longs, 0, 1), 1);
        Due.fails("move rows", x, x.move(1, 0, 2, 0, 1), 1);
        Due.fails("setRow", x, x.setRow(1, 0, longs), 1);
        Due.fails("row", x, x.row(0, 0), -1, 1);
        Due.fails("sort", x, x.sort(1, 0, 2), 1);
        Due.fails("search", x, x.search(1, 0), 1);
        Due.fails("rule", x, x.rule(0, 1, 1, 0, 0), 1);
    }

    private static void lengthBelowZero() {
        Due.says("4 a length below 0;");
        for (int n : new int[] {-1, Integer.MIN_VALUE}) {
            DecisionArrays x = Make.of(4, 1, 2);
            Due.fails("array", x, x.array(4, n), 4);
            Due.fails("things", x, x.things(4, n), 4);
            Due.fails("rows", x, x.rows(0, n), 4);
            for (int depth = 1; depth <= 4; depth++) {
                for (int step = 0; step < depth; step++) {
                    int[] s = {1, 1, 1, 1};
                    s[step] = n;
                    Due.fails("grid", x, x.grid(4, depth, s[0], s[1], s[2], s[3]), 4);
                }
            }
            Due.fails("move", x, x.move(0, 0, 0, 1, n), 4);
            Due.fails("copy", x, x.copy(0, n), 4);
            Due.fine("nothing is made", x, x.count(0), 1);
        }
    }

    private static void pinnedOrOfAnotherClass() {
        Due.says("6 an element is PINNED; 7 a THING of another CLASS;");
        DecisionArrays x = new DecisionArrays();
        x.things(3, 2);
        Make.add(x, 8, 10, 4);
        x.candidate(x.decide(0, 0, 0, 0, 0), 10);
        Due.fails("write", x, x.write(0, 0, 0, 0, 0, 8, 4), 7);
        Due.fails("fill", x, x.fill(0, 0, 2, 8, 4), 7);
        Due.fails("move", x, x.move(1, 1, 0, 0, 1), 7);
        Due.fails("candidate", x, x.candidate(0, 4), 7);
        x.pin(0, 0, 0, 0, 0, true);
        Due.fails("write, pinned", x, x.write(0, 0, 0, 0, 0, 8, 10), 6);
        Due.fails("fill, pinned", x, x.fill(0, 0, 2, 8, 10), 6);
        Due.fails("move, pinned", x, x.move(1, 0, 0, 0, 1), 6);
        Due.fails("sort, pinned", x, x.sort(0, 0, 2), 6);
        Due.fails("choose, pinned", x, x.choose(0, 0), 6);
        Make.holds("all as it was", x, 0, 0, 0);
    }

    /** A few calls with all that can be wrong at once; RefusedCallsTest has the others. */
    private static void firstOfSeveral() {
        Due.says("CODES (of several the first one)");
        DecisionArrays x = Make.ladder(8, 2);
        x.things(3, 2);
        x.pin(4, 0, 0, 0, 0, true);
        Due.fails("5 of all", x, x.write(9, 9, 9, 9, 9, 9, -1), 5);
        Due.fails("9 behind 5", x, x.write(4, 9, 9, 9, 9, 9, -1), 9);
        Due.fails("9 for BITS", x, x.write(4, 9, 9, 9, 9, 4, 1L << 40), 9);
        Due.fails("2 behind 9", x, x.write(4, 9, 9, 9, 9, 4, 4), 2);
        Due.fails("3 behind 9", x, x.write(1, 0, 9, 9, 9, 4, 4), 3);
        Due.fails("1 behind 2", x, x.write(4, 0, 9, 9, 9, 4, 4), 1);
        Due.fails("6 behind 1", x, x.write(4, 0, 9, 9, 9, 8, 4), 6);
        Due.fails("7 behind 6", x, x.write(4, 1, 9, 9, 9, 8, 4), 7);
        Due.fine("none", x, x.write(4, 1, 9, 9, 9, 8, 3), 0);
    }

    private static void boundPassed() {
        Due.says("8 a bound told here would be passed.");
        DecisionArrays x = Make.of(4, new long[25]);
        for (int d = 0; d < 24; d++) {
            x.decide(0, d, 0, 0, 0);
        }
        x.span(0, 1, 16, 1);
        for (int r = 0; r < 12; r++) {
            x.rule(0, 0, 1, 0, 0);
        }
        for (int m = 0; m < 8; m++) {
            x.mark();
        }
        Due.fails("a 25th decision", x, x.decide(0, 24, 0, 0, 0), 8);
        Due.fails("a 17th candidate", x, x.candidate(0, 17), 8);
        Due.fails("a 17th of a span", x, x.span(0, 16, 17, 1), 8);
        Due.fails("a 13th rule", x, x.rule(0, 0, 1, 0, 0), 8);
        Due.fails("a 9th mark", x, x.mark(), 8);
        Due.fails("a length of 201", x, x.array(4, 201), 8);
        x.span(1, 1, 16, 1);
        x.span(2, 1, 16, 1);
        x.span(3, 1, 2, 1);
        Due.fails("8192 ways", x, x.best(), 8);
        Due.fine("24 decisions", x, x.count(2), 24);
        Due.fine("16 candidates", x, x.decision(0, 2), 16);
        Due.fine("12 rules", x, x.count(3), 12);
        Due.fine("8 marks", x, x.count(4), 8);
    }

    private static void answers() {
        Due.says("Calls answer a code below 0 (-5, ..), or as told; those that answer BITS answer 0, and code() tells.");
        DecisionArrays x = Make.of(4, 7);
        x.candidate(x.decide(0, 0, 0, 0, 0), 7);
        Due.fails("below 0", x, x.about(1, 0), -5, 5);
        Due.fails("read answers 0", x, x.read(0, 1, 0, 0, 0, 4), 0, 2);
        Due.fails("candidateOf answers 0", x, x.candidateOf(0, 1), 0, 9);
        Due.fails("row answers -1 as told", x, x.row(0, 0), -1, 1);
        Due.fails("hash answers 0 as told", x, x.hash(1), 0, 5);
        Due.fails("amount answers 0 as told", x, x.amount(0), 0, 9);
        Due.fine("read of BITS", x, x.read(0, 0, 0, 0, 0, 4), 7);
        Due.fine("candidateOf of BITS", x, x.candidateOf(0, 0), 7);
    }

    private static void codeOfTheLatest() {
        Due.says("(code() is of the latest call that has codes; 0 when it had none.)");
        DecisionArrays x = Make.of(4, 7);
        Due.is("code at first", x.code(), 0);
        x.rows(9, 1);
        Due.is("5", x.code(), 5);
        Due.is("5 again", x.code(), 5);
        x.score();
        Due.is("score has no codes", x.code(), 5);
        x.array(9, 1);
        Due.is("9", x.code(), 9);
        x.array(1, 1);
        Due.is("none", x.code(), 0);
        x.row(0, 0);
        Due.is("1", x.code(), 1);
        x.column(7, 0);
        Due.is("NONE is no code", x.code(), 0);
    }
}
