import java.util.ArrayList;
import java.util.Arrays;
import java.util.List;

/**
 * Every refused call: of several codes the first in the call's own list, and nothing changes. Each call is told
 * once as it should be, and with what may be wrong with it, in the order of its codes; all that can be wrong at
 * once is tried at once.
 */
public final class RefusedCallsTest {
    private interface Call {
        long on(DecisionArrays x, int[] p, long bits);
    }

    /** Argument number at becomes this value; BITS are argument 9. */
    private record Fault(int code, int at, long value) { }

    private static final int BITS = 9;
    private static final int GONE = 99;
    private static final long NONE = Long.MAX_VALUE;

    private static String dump;
    private static String fullDump;

    public static void main(String[] args) {
        dump = dumpOf(house());
        fullDump = dumpOf(fullHouse());
        newArrays();
        arrays();
        elements();
        wholeArrays();
        fillAndMove();
        moveBehindSeven();
        decisions();
        spans();
        rulesAndMarks();
        bounds();
        Due.end();
    }

    /** Things of class 3 (0), ROWS of them (1, 5, 6), any things (2), ints (3), longs (4), doubles (7). */
    private static DecisionArrays house() {
        DecisionArrays x = new DecisionArrays();
        x.things(3, 4);
        Make.put(x, 0, 3, 10, 0, 17);
        x.rows(0, 3);
        x.setRow(1, 1, 0);
        x.setRow(1, 2, 0);
        Make.add(x, 8, 3, 10, 4, 17);
        Make.add(x, 4, 5, 6, 7, 8);
        Make.add(x, 5, 5, 6, 7, 8);
        x.rows(1, 1);
        x.rows(5, 1);
        x.setRow(5, 0, 1);
        x.setRow(6, 0, 5);
        x.mark();
        Make.add(x, 7, Make.d(1), Make.d(2));
        x.pin(0, 1, 0, 0, 0, true);
        x.mark();
        x.write(3, 3, 0, 0, 0, 4, 9);
        x.candidate(x.decide(0, 0, 0, 0, 0), 3);
        x.candidate(0, 10);
        x.span(x.decide(3, 0, 0, 0, 0), 5, 8, 1);
        x.candidate(x.decide(7, 0, 0, 0, 0), Make.d(1));
        x.candidate(x.decide(0, 1, 0, 0, 0), 10);
        x.rule(0, 3, 2, 0, 9);
        x.rule(3, 0, 1, 3, 9);
        return x;
    }

    /** The same house with as many arrays, DECISIONS, CANDIDATES, RULES and MARKS as there may be. */
    private static DecisionArrays fullHouse() {
        DecisionArrays x = house();
        int more = x.array(4, 20);
        for (int d = x.count(2); d < 24; d++) {
            x.decide(more, d - 4, 0, 0, 0);
        }
        for (int c = x.decision(0, 2); c < 16; c++) {
            x.candidate(0, 10 + 7 * c);
        }
        x.span(1, 5, 20, 1);
        x.span(4, 1, 16, 1);
        x.span(5, 1, 16, 1);
        for (int a = x.count(0); a < 60; a++) {
            x.array(4, 0);
        }
        for (int r = x.count(3); r < 12; r++) {
            x.rule(1, 3, 1, 0, 0);
        }
        for (int m = x.count(4); m < 8; m++) {
            x.mark();
        }
        return x;
    }

    /** All that calls tell of an object; the MARKS are used up on the way. */
    private static String dumpOf(DecisionArrays x) {
        StringBuilder all = new StringBuilder();
        for (int what = 0; what < 6; what++) {
            all.append(x.count(what)).append(' ');
        }
        int arrays = x.count(0);
        for (int a = 0; a < arrays; a++) {
            int length = x.about(a, 2);
            all.append('\n').append(a).append(": ").append(length);
            dumpArray(x, a, length, all);
        }
        int decisions = x.count(2);
        for (int d = 0; d < decisions; d++) {
            int candidates = x.decision(d, 2);
            all.append("\ndecision ").append(candidates).append(' ').append(x.decision(d, 3)).append(':');
            for (int c = 0; c < candidates && d < 4; c++) {
                all.append(' ').append(x.candidateOf(d, c));
            }
        }
        int rules = x.count(3);
        for (int r = 0; r < rules; r++) {
            all.append("\nrule ").append(x.amount(r));
        }
        all.append("\nscore ").append(x.score());
        while (x.back() >= 0) {
            all.append("\nback ").append(x.hash(0)).append(' ').append(x.hash(3)).append(' ').append(x.about(0, 5));
        }
        return all.toString();
    }

    /** Arrays that only the full house has are told by their HASH: an object has 512 calls and no more. */
    private static void dumpArray(DecisionArrays x, int a, int length, StringBuilder all) {
        if (a > 7) {
            all.append(' ').append(length == 0 ? 1 : x.hash(a));
            return;
        }
        int kind = x.about(a, 0);
        boolean rows = x.about(a, 1) > 1;
        for (int i = 0; i < length; i++) {
            all.append(' ').append(rows ? x.row(a, i) : x.read(a, i, 0, 0, 0, kind));
            if (!rows) {
                int was = x.pin(a, i, 0, 0, 0, true);
                x.pin(a, i, 0, 0, 0, was == 1);
                all.append(was == 1 ? "!" : "");
            }
        }
    }

    private static Fault fault(int code, int at, long value) {
        return new Fault(code, at, value);
    }

    private static int[] p(int... args) {
        return args;
    }

    private static List<Fault> faults(Fault... faults) {
        return List.of(faults);
    }

    /** Every set of faults that can be at once, in a house with room, and in the full one, where 8 comes last. */
    private static void refused(String sentence, Call call, int[] good, long bits, List<Fault> faults) {
        Due.says(sentence);
        DecisionArrays well = house();
        Due.fails("a call ahead of it", well, well.hash(-1), 0, 5);
        call.on(well, good, bits);
        Due.is("without a fault", well.code(), 0);
        for (int set = 1; set < 1 << faults.size(); set++) {
            trySet(call, good, bits, faults, set);
        }
    }

    /** What the document says of the answer: -1, 0, or the code below 0. */
    private static long answerOf(int code) {
        String sentence = Due.sentence();
        if (sentence.contains("(-1 is answered)")) {
            return -1;
        }
        return sentence.contains("0 with a code") || sentence.startsWith("BITS of") ? 0 : -code;
    }

    private static void trySet(Call call, int[] good, long bits, List<Fault> faults, int set) {
        int[] args = good.clone();
        long value = bits;
        int code = 0;
        List<Integer> taken = new ArrayList<>();
        for (int f = 0; f < faults.size(); f++) {
            Fault fault = faults.get(f);
            if ((set >> f & 1) == 1) {
                if (taken.contains(fault.at())) {
                    return;
                }
                taken.add(fault.at());
                code = code == 0 ? fault.code() : code;
                if (fault.at() == BITS) {
                    value = fault.value();
                } else {
                    args[fault.at()] = (int) fault.value();
                }
            }
        }
        String what = "with " + Arrays.toString(args) + " and " + value;
        DecisionArrays x = house();
        Due.fails(what, x, call.on(x, args, value), answerOf(code), code);
        Due.isTrue("nothing changes " + what, dumpOf(x).equals(dump));
        DecisionArrays y = fullHouse();
        Due.fails(what + " in the full house", y, call.on(y, args, value), answerOf(code), code);
        Due.isTrue("nothing changes in the full house " + what, dumpOf(y).equals(fullDump));
    }

    private static void newArrays() {
        refused("A new array of a KIND (CLASS -1) of DEPTH 1, n long: its number. 9, 4, 8 (also n above 200).",
            (x, p, bits) -> x.array(p[0], p[1]), p(4, 1), 0,
            faults(fault(9, 0, 9), fault(9, 0, -1), fault(4, 1, -1), fault(8, 1, 201)));
        refused("A new array of THINGS of a CLASS, of DEPTH 1, n long: its number. 9, 4, 8.",
            (x, p, bits) -> x.things(p[0], p[1]), p(6, 1), 0,
            faults(fault(9, 0, 7), fault(9, 0, -1), fault(4, 1, -1), fault(8, 1, 201)));
        refused("DEPTH one more), n long: its number. 5, 9 (a is of DEPTH 4), 4, 8.",
            (x, p, bits) -> x.rows(p[0], p[1]), p(0, 1), 0,
            faults(fault(5, 0, GONE), fault(5, 0, -1), fault(9, 0, 6), fault(4, 1, -1), fault(8, 1, 201)));
        refused("each with all below it ahead of the next. 9, 4, 8 (nothing is made).",
            (x, p, bits) -> x.grid(p[0], p[1], p[2], p[3], p[4], p[5]), p(4, 2, 1, 1, -7, 999), 0,
            faults(fault(9, 0, 8), fault(9, 0, -1), fault(9, 1, 0), fault(9, 1, 5), fault(4, 2, -1), fault(4, 3, -1),
                fault(8, 2, 201), fault(8, 3, 201), fault(8, 2, 60)));
        refused("the same ROWS: its number. 5, 4, 8. PINS are not taken over.",
            (x, p, bits) -> x.copy(p[0], p[1]), p(0, 1), 0,
            faults(fault(5, 0, GONE), fault(5, 0, -1), fault(4, 1, -1), fault(8, 1, 201)));
        refused("null ones null, numbered as in grid(): its number. 5, 8 (nothing is made).",
            (x, p, bits) -> x.deep(p[0]), p(6), 0, faults(fault(5, 0, GONE), fault(5, 0, -1)));
    }

    private static void arrays() {
        refused("how many elements are PINNED (5). 5, 9.",
            (x, p, bits) -> x.about(p[0], p[1]), p(0, 5), 0,
            faults(fault(5, 0, GONE), fault(5, 0, -1), fault(9, 1, 6), fault(9, 1, -1)));
        refused("ROW i of an array: its number; -1 null. Codes by code() alone: 5, 1 (DEPTH 1), 2 (-1 is answered).",
            (x, p, bits) -> x.row(p[0], p[1]), p(1, 1), 0,
            faults(fault(5, 0, GONE), fault(5, 0, -1), fault(1, 0, 0), fault(2, 1, 4), fault(2, 1, -1)));
        refused("ROW i of an array becomes array r (-1: null): 0. 5 (also r), 2, 1 (a is of DEPTH 1, r is not alike).",
            (x, p, bits) -> x.setRow(p[0], p[1], p[2]), p(1, 0, 0), 0,
            faults(fault(5, 0, GONE), fault(5, 2, GONE), fault(5, 2, -2), fault(2, 1, 4), fault(2, 1, -1),
                fault(1, 0, 0), fault(1, 2, 3), fault(1, 2, 2), fault(1, 2, 1)));
        refused("Whether two arrays are the same all through: KIND, DEPTH, lengths, BITS, nulls (not CLASSES): 1, 0. 5.",
            (x, p, bits) -> x.same(p[0], p[1]), p(0, 2), 0,
            faults(fault(5, 0, GONE), fault(5, 0, -1), fault(5, 1, GONE), fault(5, 1, -1)));
        refused("null 0 (of 32 bits, wrapping). 0 with a code: 5.",
            (x, p, bits) -> x.hash(p[0]), p(0), 0, faults(fault(5, 0, GONE), fault(5, 0, -1)));
    }

    private static void elements() {
        refused("BITS of an element as one of a READER kind. 5, 9 (reader), 2, 3, 1.",
            (x, p, bits) -> x.read(p[0], p[1], p[2], 0, 0, p[3]), p(1, 1, 0, 8), 0,
            faults(fault(5, 0, GONE), fault(9, 3, 9), fault(9, 3, -1), fault(2, 1, 3), fault(3, 1, 0), fault(2, 2, 4),
                fault(1, 3, 4)));
        refused("An element becomes a value of a WRITER kind, widened: 0. 5, 9, 2, 3, 1, 6, 7.",
            (x, p, bits) -> x.write(p[0], p[1], p[2], 0, 0, p[3], bits), p(1, 1, 0, 8), 10,
            faults(fault(5, 0, GONE), fault(9, 3, 9), fault(9, BITS, NONE), fault(2, 1, 3), fault(3, 1, 0),
                fault(2, 2, 4), fault(1, 3, 4), fault(6, 2, 1), fault(7, BITS, 4)));
        refused("The array of DEPTH 1 in which an element lies, times 1000, and its place. 5, 2, 3.",
            (x, p, bits) -> x.place(p[0], p[1], p[2], p[3], p[4]), p(6, 0, 0, 1, 0), 0,
            faults(fault(5, 0, GONE), fault(2, 1, 1), fault(2, 2, 1), fault(2, 3, 3), fault(3, 3, 0), fault(2, 4, 4)));
        refused("An element is PINNED (on), or not any more: 1 if it was, else 0. 5, 2, 3.",
            (x, p, bits) -> x.pin(p[0], p[1], p[2], p[3], p[4], true), p(6, 0, 0, 1, 0), 0,
            faults(fault(5, 0, GONE), fault(2, 1, 1), fault(2, 2, 1), fault(2, 3, 3), fault(3, 3, 0), fault(2, 4, 4)));
        refused("its array times 1000 and its place; NONE is -2. 9.",
            (x, p, bits) -> x.column(p[0], p[1]), p(8, 7), 0,
            faults(fault(9, 0, 9), fault(9, 0, -1), fault(9, 1, -1)));
        refused("Whether a kind WIDENS to another one: 1, 0. 9.",
            (x, p, bits) -> x.widens(p[0], p[1]), p(1, 4), 0,
            faults(fault(9, 0, 9), fault(9, 0, -1), fault(9, 1, 9), fault(9, 1, -1)));
    }

    private static void wholeArrays() {
        refused("how many places have other BITS than before. 5, 1 (another DEPTH), 2, 6 (one of them is).",
            (x, p, bits) -> x.sort(p[0], p[1], p[2]), p(0, 2, 4), 0,
            faults(fault(5, 0, GONE), fault(1, 0, 1), fault(2, 1, -1), fault(2, 1, 5), fault(2, 2, 5), fault(2, 2, -1),
                fault(6, 1, 0), fault(6, 1, 1)));
        refused("else -100 less where it would be. 5, 9 (BITS), 1 (another DEPTH).",
            (x, p, bits) -> x.search(p[0], bits), p(0), 3,
            faults(fault(5, 0, GONE), fault(9, BITS, 1001), fault(9, BITS, -1), fault(1, 0, 1)));
    }

    private static void fillAndMove() {
        refused("5, 9, 1 (also another DEPTH), 2 (0 up to the length, from not above to), 6, 7.",
            (x, p, bits) -> x.fill(p[0], p[1], p[2], p[3], bits), p(0, 2, 4, 8), 10,
            faults(fault(5, 0, GONE), fault(9, 3, 9), fault(9, BITS, NONE), fault(1, 0, 1), fault(1, 3, 4),
                fault(2, 1, -1), fault(2, 2, 5), fault(2, 2, 0), fault(6, 1, 1), fault(7, BITS, 4)));
        refused("5, 1 (KIND or DEPTH is another one; of ROWS also the CLASS), 4 (n below 0), 2, 6 (one of the n places), 7",
            (x, p, bits) -> x.move(p[0], p[1], p[2], p[3], p[4]), p(2, 0, 0, 2, 1), 0,
            faults(fault(5, 0, GONE), fault(5, 2, -1), fault(1, 0, 3), fault(1, 0, 1), fault(1, 2, 4), fault(4, 4, -1),
                fault(2, 1, 4), fault(2, 3, 4), fault(2, 3, -1), fault(6, 3, 1), fault(7, 1, 2)));
    }

    private static void moveBehindSeven() {
        Due.says("What has a code changes nothing, but move() behind 7.");
        DecisionArrays x = new DecisionArrays();
        x.things(3, 4);
        Make.add(x, 8, 3, 10, 4, 17);
        Due.fails("the third is of another class", x, x.move(1, 0, 0, 0, 4), 7);
        Make.holds("two have come", x, 0, 3, 10, 0, 0);
        Due.fails("the first is of another class", x, x.move(1, 2, 0, 0, 2), 7);
        Make.holds("none has come", x, 0, 3, 10, 0, 0);
        Make.holds("they are where they were too", x, 1, 3, 10, 4, 17);
    }

    private static void decisions() {
        refused("An element becomes a DECISION: its number; of one that is: that. 5, 2, 3, 8.",
            (x, p, bits) -> x.decide(p[0], p[1], p[2], p[3], p[4]), p(6, 0, 0, 1, 0), 0,
            faults(fault(5, 0, GONE), fault(2, 1, 1), fault(2, 2, 1), fault(2, 3, 3), fault(3, 3, 0), fault(2, 4, 4)));
        refused("9 (no such DECISION; BITS that are none, the no-number, one that is there), 7, 8.",
            (x, p, bits) -> x.candidate(p[0], bits), p(0), 997,
            faults(fault(9, 0, 24), fault(9, 0, -1), fault(9, BITS, NONE), fault(9, BITS, 3), fault(7, BITS, 4)));
        refused("9 (no such DECISION; BITS that are none, the no-number, one that is there), 7, 8.",
            (x, p, bits) -> x.candidate(p[0], bits), p(2), 0,
            faults(fault(9, 0, 24), fault(9, BITS, Make.NO_DOUBLE), fault(9, BITS, -1), fault(9, BITS, Make.d(1))));
        refused("A DECISION's element becomes CANDIDATE c: 0. 9, 6.",
            (x, p, bits) -> x.choose(p[0], p[1]), p(0, 0), 0,
            faults(fault(9, 0, 24), fault(9, 0, -1), fault(9, 1, 16), fault(9, 1, -1), fault(6, 0, 3)));
        refused("the CANDIDATE that the element is (3; NONE -2). 9.",
            (x, p, bits) -> x.decision(p[0], p[1]), p(0, 3), 0,
            faults(fault(9, 0, 24), fault(9, 0, -1), fault(9, 1, 4), fault(9, 1, -1)));
        refused("BITS of CANDIDATE c of a DECISION. 9.",
            (x, p, bits) -> x.candidateOf(p[0], p[1]), p(0, 1), 0,
            faults(fault(9, 0, 24), fault(9, 0, -1), fault(9, 1, 16), fault(9, 1, -1)));
    }

    private static void spans() {
        refused("9 (no such DECISION; KIND not 1 .. 5; low or high none of it; step below 1), 8 (nothing changes).",
            (x, p, bits) -> x.span(p[0], bits, bits + p[1], p[2]), p(1, 0, 1), 6,
            faults(fault(9, 0, 24), fault(9, 0, -1), fault(9, 0, 0), fault(9, 0, 2), fault(9, BITS, 1L << 31),
                fault(9, BITS, Integer.MIN_VALUE - 1L), fault(9, 2, 0), fault(9, 2, -1), fault(8, 1, 50)));
        refused("9 (no such DECISION; KIND not 1 .. 5; low or high none of it; step below 1), 8 (nothing changes).",
            (x, p, bits) -> x.span(p[0], 6, bits, p[1]), p(1, 1), 7,
            faults(fault(9, 0, 2), fault(9, BITS, 1L << 31), fault(9, BITS, NONE), fault(9, 1, 0), fault(8, BITS, 90)));
    }

    private static void rulesAndMarks() {
        refused("A RULE more, of a sort 0 .. 5: its number. 5, 9 (sort, WEIGHT; of 3 BITS a that are none), "
            + "1 (another DEPTH), 8.",
            (x, p, bits) -> x.rule(p[0], p[1], p[2], bits, 1), p(3, 0, 1), 3,
            faults(fault(5, 1, GONE), fault(5, 1, -1), fault(9, 0, 6), fault(9, 0, -1), fault(9, 2, 1001),
                fault(9, 2, -1001), fault(9, BITS, 1001), fault(1, 1, 1)));
        refused("The AMOUNT of a RULE; 0 with a code: 9.",
            (x, p, bits) -> x.amount(p[0]), p(0), 0, faults(fault(9, 0, 12), fault(9, 0, -1)));
        refused("ways (5; 5001 if there are more). 9.",
            (x, p, bits) -> x.count(p[0]), p(5), 0, faults(fault(9, 0, 6), fault(9, 0, -1)));
    }

    /** What is refused in the full house alone. */
    private static void bounds() {
        Due.says("8 a bound told here would be passed.");
        full("array", (x, p, bits) -> x.array(4, 0));
        full("things", (x, p, bits) -> x.things(0, 0));
        full("rows", (x, p, bits) -> x.rows(0, 0));
        full("grid", (x, p, bits) -> x.grid(4, 1, 0, 0, 0, 0));
        full("copy", (x, p, bits) -> x.copy(0, 0));
        full("deep", (x, p, bits) -> x.deep(0));
        full("decide", (x, p, bits) -> x.decide(0, 3, 0, 0, 0));
        full("candidate", (x, p, bits) -> x.candidate(0, 997));
        full("span", (x, p, bits) -> x.span(1, 20, 21, 1));
        full("rule", (x, p, bits) -> x.rule(0, 3, 1, 0, 0));
        full("best", (x, p, bits) -> x.best());
        full("mark", (x, p, bits) -> x.mark());
        Due.says("Back to the latest MARK, which goes: how many are left. 9: there is none.");
        DecisionArrays x = house();
        x.back();
        x.back();
        DecisionArrays y = house();
        y.back();
        y.back();
        Due.fails("back from none", x, x.back(), 9);
        Due.isTrue("nothing changes", dumpOf(x).equals(dumpOf(y)));
    }

    private static void full(String what, Call call) {
        DecisionArrays x = fullHouse();
        Due.fails(what, x, call.on(x, p(), 0), 8);
        Due.isTrue(what + " changes nothing", dumpOf(x).equals(fullDump));
    }
}
