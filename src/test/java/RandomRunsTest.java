import java.util.ArrayList;
import java.util.List;
import java.util.Random;

/** Runs of 512 random calls, the same ones each time, against the Model: answers and codes of all promises. */
public final class RandomRunsTest {
    private static final long[] WILD = {
        Long.MIN_VALUE, Long.MAX_VALUE, Integer.MIN_VALUE, Integer.MAX_VALUE, -1, 0, 1, 2, 127, 128, -128, -129,
        65535, 65536, 32767, -32768, 1000, 1001, 0x7FC00000L, 0x7F800000L, 0x7F800001L, -8388608L, 0x3F800000L,
        0xBF800000L, 0x7FF8000000000000L, 0x7FF0000000000000L, 0xFFF0000000000000L, 0x3FF0000000000000L, 16777217L,
        9007199254740993L, 0x43E0000000000000L, 0xC3E0000000000000L, 1L << 40, -(1L << 53) - 1, 0x5F000000L
    };

    /** Calls whose answer alone does not tell whether there was a code. */
    private static final String CODE_UNTOLD = ",5,7,11,18,20,25,26,28,29,";

    private final Random random;
    private final int mood;
    private final int kinds;
    private final DecisionArrays x = new DecisionArrays();
    private final Model m = new Model();
    private final List<String> told = new ArrayList<>();
    private final int[] seen;
    private int calls = 0;

    private RandomRunsTest(long seed, int[] seen) {
        random = new Random(seed);
        mood = (int) (seed / 4 % 4);
        kinds = (int) (seed % 4);
        this.seen = seen;
    }

    public static void main(String[] args) {
        int runs = args.length > 0 ? Integer.parseInt(args[0]) : 1500;
        int[] seen = new int[36 * 10];
        for (int seed = 0; seed < runs && !Due.anyWrong(); seed++) {
            new RandomRunsTest(seed, seen).run(seed);
        }
        everyCodeSeen(seen);
        Due.end();
    }

    /** Which codes each call has, by the document: the runs must have met each. */
    private static void everyCodeSeen(int[] seen) {
        int[] codes = {
            948, 948, 5948, 948, 59, 512, 521, 59231, 5923167, 523, 523, 9, 9, 591267, 514267, 548, 58, 5126, 591, 5,
            5, 5238, 978, 98, 96, 9, 9, 5918, 9, 0, 8, 8, 9, 9
        };
        for (int call = 0; call < codes.length; call++) {
            for (int left = codes[call]; left > 0; left /= 10) {
                Due.isTrue("call " + call + " with code " + left % 10 + " is met", seen[call * 10 + left % 10] > 0);
            }
            Due.isTrue("call " + call + " without a code is met", seen[call * 10] > 0);
        }
    }

    /** Each turn makes at most four calls. */
    private void run(int seed) {
        for (int turn = 0; calls <= 508 && !Due.anyWrong(); turn++) {
            int which = random.nextInt(turn < 40 ? 40 : 60);
            step(which < 34 ? which : turn < 40 ? which - 34 : favoured());
            if (random.nextInt(16) == 0) {
                calls++;
                told.add("score()");
                Due.is("score()", x.score(), m.score());
            }
        }
        if (Due.anyWrong()) {
            System.out.println("run " + seed + ":");
            for (String line : told) {
                System.out.println("  " + line);
            }
        }
    }

    /** Runs differ in what they do most: decisions and rules pile up only where they are often asked for. */
    private int favoured() {
        int turn = random.nextInt(3);
        switch (mood) {
            case 0: return 21 + turn;
            case 1: return 27 + turn;
            case 2: return 13 + random.nextInt(8);
            default: return 7 + random.nextInt(26);
        }
    }

    private int pick(int n) {
        return random.nextInt(25) == 0 ? (int) WILD[random.nextInt(WILD.length)] : random.nextInt(n);
    }

    private int anArray() {
        return pick(m.tables.size() + (random.nextInt(10) == 0 ? 2 : 0) + (m.tables.isEmpty() ? 1 : 0));
    }

    private int aLength() {
        int wild = random.nextInt(40);
        return wild == 0 ? 200 : wild == 1 ? 201 : wild == 2 ? -1 : wild < 6 ? random.nextInt(150) : random.nextInt(6);
    }

    private int anIndex() {
        int wild = random.nextInt(30);
        return wild == 0 ? -1 : wild == 1 ? 200 : random.nextInt(wild < 15 ? 3 : 6);
    }

    private long bitsFor(int kind) {
        if (random.nextInt(3) == 0) {
            return WILD[random.nextInt(WILD.length)];
        }
        switch (kind) {
            case 0: return random.nextInt(2);
            case 6: return Float.floatToIntBits(random.nextInt(9) / 2f - 2);
            case 7: return Double.doubleToLongBits(random.nextInt(9) / 2.0 - 2);
            case 8: return random.nextInt(30);
            default: return random.nextInt(7) - (kind == 1 ? 0 : 3);
        }
    }

    private int kindOf(int a) {
        boolean known = a >= 0 && a < m.tables.size();
        return known && random.nextInt(4) > 0 ? m.tables.get(a).kind : pick(9);
    }

    private int aKind() {
        int[] few = {kinds * 2, kinds * 2 + 1, 8};
        return random.nextInt(3) > 0 ? few[random.nextInt(3)] : pick(9);
    }

    private void due(int call, String what, long got, long want) {
        calls++;
        told.add(what + " " + got + (got == want ? "" : ", due is " + want));
        if (m.code >= 0 && m.code < 10) {
            seen[call * 10 + m.code]++;
        }
        Due.is(what, got, want);
        if (CODE_UNTOLD.contains("," + call + ",") || random.nextInt(4) == 0) {
            calls++;
            Due.is("code() behind " + what, x.code(), m.code);
        }
    }

    private void step(int call) {
        if (call < 7) {
            arrays(call);
        } else if (call < 13) {
            elements(call);
        } else if (call < 21) {
            wholes(call);
        } else {
            others(call);
        }
    }

    private void arrays(int call) {
        int a = anArray();
        int n = aLength();
        int k = aKind();
        if (call == 0) {
            due(call, "array(" + k + ", " + n + ")", x.array(k, n), m.array(k, n));
        } else if (call == 1) {
            int cls = pick(8);
            due(call, "things(" + cls + ", " + n + ")", x.things(cls, n), m.things(cls, n));
        } else if (call == 2) {
            due(call, "rows(" + a + ", " + n + ")", x.rows(a, n), m.rows(a, n));
        } else if (call == 3) {
            int d = pick(5);
            int[] s = {n % 4, aLength() % 4, aLength() % 4, aLength()};
            due(call, "grid(" + k + ", " + d + ", " + s[0] + ", " + s[1] + ", " + s[2] + ", " + s[3] + ")",
                x.grid(k, d, s[0], s[1], s[2], s[3]), m.grid(k, d, s));
        } else if (call == 4) {
            int what = pick(7);
            due(call, "about(" + a + ", " + what + ")", x.about(a, what), m.about(a, what));
        } else if (call == 5) {
            int i = anIndex();
            due(call, "row(" + a + ", " + i + ")", x.row(a, i), m.row(a, i));
        } else {
            int i = anIndex();
            int r = rowFor(a);
            due(call, "setRow(" + a + ", " + i + ", " + r + ")", x.setRow(a, i, r), m.setRow(a, i, r));
        }
    }

    private int rowFor(int a) {
        if (a < 0 || a >= m.tables.size() || random.nextInt(5) == 0) {
            return anArray() - 1;
        }
        int r = random.nextInt(m.tables.size());
        for (int turn = 0; turn < m.tables.size(); turn++) {
            Model.Table t = m.tables.get(a);
            Model.Table u = m.tables.get(r);
            if (u.depth == t.depth - 1 && u.kind == t.kind) {
                return r;
            }
            r = (r + 1) % m.tables.size();
        }
        return -1;
    }

    private void elements(int call) {
        int a = anArray();
        int i = anIndex();
        int j = anIndex();
        int k = anIndex();
        int l = anIndex();
        String path = a + ", " + i + ", " + j + ", " + k + ", " + l;
        int kind = kindOf(a);
        if (call == 7) {
            due(call, "read(" + path + ", " + kind + ")", x.read(a, i, j, k, l, kind), m.read(a, i, j, k, l, kind));
        } else if (call == 8) {
            long bits = bitsFor(kind);
            due(call, "write(" + path + ", " + kind + ", " + bits + ")",
                x.write(a, i, j, k, l, kind, bits), m.write(a, i, j, k, l, kind, bits));
        } else if (call == 9) {
            due(call, "place(" + path + ")", x.place(a, i, j, k, l), m.place(a, i, j, k, l));
        } else if (call == 10) {
            boolean on = random.nextInt(4) == 0;
            due(call, "pin(" + path + ", " + on + ")", x.pin(a, i, j, k, l, on), m.pin(a, i, j, k, l, on));
        } else if (call == 11) {
            int n = pick(50);
            due(call, "column(" + kind + ", " + n + ")", x.column(kind, n), m.column(kind, n));
        } else {
            int to = pick(9);
            due(call, "widens(" + kind + ", " + to + ")", x.widens(kind, to), m.widens(kind, to));
        }
    }

    private void wholes(int call) {
        int a = anArray();
        int b = random.nextInt(3) == 0 ? anArray() : partnerOf(a);
        int from = anIndex();
        int to = random.nextInt(4) == 0 ? anIndex() : from + random.nextInt(4);
        int n = random.nextInt(12) == 0 ? aLength() : random.nextInt(4);
        if (call == 13) {
            int kind = kindOf(a);
            long bits = bitsFor(kind);
            due(call, "fill(" + a + ", " + from + ", " + to + ", " + kind + ", " + bits + ")",
                x.fill(a, from, to, kind, bits), m.fill(a, from, to, kind, bits));
        } else if (call == 14) {
            int k = anIndex();
            due(call, "move(" + a + ", " + from + ", " + b + ", " + k + ", " + n + ")",
                x.move(a, from, b, k, n), m.move(a, from, b, k, n));
        } else if (call == 15) {
            int length = aLength();
            due(call, "copy(" + a + ", " + length + ")", x.copy(a, length), m.copy(a, length));
        } else if (call == 16) {
            due(call, "deep(" + a + ")", x.deep(a), m.deep(a));
        } else if (call == 17) {
            due(call, "sort(" + a + ", " + from + ", " + to + ")", x.sort(a, from, to), m.sort(a, from, to));
        } else if (call == 18) {
            long bits = bitsFor(kindOf(a));
            due(call, "search(" + a + ", " + bits + ")", x.search(a, bits), m.search(a, bits));
        } else if (call == 19) {
            due(call, "same(" + a + ", " + b + ")", x.same(a, b), m.same(a, b));
        } else {
            due(call, "hash(" + a + ")", x.hash(a), m.hash(a));
        }
    }

    private int partnerOf(int a) {
        if (a < 0 || a >= m.tables.size()) {
            return anArray();
        }
        int b = random.nextInt(m.tables.size());
        for (int turn = 0; turn < m.tables.size(); turn++) {
            Model.Table t = m.tables.get(a);
            Model.Table u = m.tables.get(b);
            if (u.depth == t.depth && u.kind == t.kind) {
                return b;
            }
            b = (b + 1) % m.tables.size();
        }
        return b;
    }

    private void others(int call) {
        int d = pick(m.spots.size() + 1);
        int c = pick(4);
        if (call == 21) {
            int a = anArray();
            int i = anIndex();
            int j = anIndex();
            int k = anIndex();
            due(call, "decide(" + a + ", " + i + ", " + j + ", " + k + ", 0)",
                x.decide(a, i, j, k, 0), m.decide(a, i, j, k, 0));
        } else if (call == 22) {
            int kind = d >= 0 && d < m.spots.size() ? m.spots.get(d).table.kind : 4;
            long bits = bitsFor(kind);
            due(call, "candidate(" + d + ", " + bits + ")", x.candidate(d, bits), m.candidate(d, bits));
        } else if (call == 23) {
            long low = random.nextInt(4) == 0 ? bitsFor(pick(9)) : random.nextInt(20);
            long high = random.nextInt(4) == 0 ? bitsFor(pick(9)) : low + random.nextInt(3);
            long step = random.nextInt(10) == 0 ? bitsFor(5) : 1 + random.nextInt(2);
            due(call, "span(" + d + ", " + low + ", " + high + ", " + step + ")",
                x.span(d, low, high, step), m.span(d, low, high, step));
        } else if (call == 24) {
            due(call, "choose(" + d + ", " + c + ")", x.choose(d, c), m.choose(d, c));
        } else if (call == 25) {
            int what = pick(5);
            due(call, "decision(" + d + ", " + what + ")", x.decision(d, what), m.decision(d, what));
        } else if (call == 26) {
            due(call, "candidateOf(" + d + ", " + c + ")", x.candidateOf(d, c), m.candidateOf(d, c));
        } else {
            rulesAndMarks(call);
        }
    }

    private void rulesAndMarks(int call) {
        if (call == 27) {
            int sort = pick(7);
            int a = anArray();
            int weight = random.nextInt(20) == 0 ? 1001 : random.nextInt(9) - 4;
            long low = bitsFor(kindOf(a));
            long high = random.nextInt(3) == 0 ? bitsFor(5) : random.nextInt(9);
            due(call, "rule(" + sort + ", " + a + ", " + weight + ", " + low + ", " + high + ")",
                x.rule(sort, a, weight, low, high), m.rule(sort, a, weight, low, high));
        } else if (call == 28) {
            int r = pick(m.judges.size() + 1);
            due(call, "amount(" + r + ")", x.amount(r), m.amount(r));
        } else if (call == 29) {
            due(call, "score()", x.score(), m.score());
            seen[call * 10]++;
        } else if (call == 30) {
            best(call);
        } else if (call == 31) {
            due(call, "mark()", x.mark(), m.mark());
        } else if (call == 32) {
            due(call, "back()", x.back(), m.back());
        } else {
            int what = pick(7);
            due(call, "count(" + what + ")", x.count(what), m.count(what));
        }
    }

    /** The Model judges all anew for each way: runs with many ways and long arrays would take too long. */
    private void best(int call) {
        calls++;
        m.count(5);
        x.count(5);
        if (m.count(5) > 5000 || m.count(5) * m.judges.size() < 2000) {
            due(call, "best()", x.best(), m.best());
        }
    }
}
