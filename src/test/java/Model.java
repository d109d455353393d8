import java.util.ArrayList;
import java.util.Arrays;
import java.util.List;

/**
 * What the document says, written once more in the plainest way and with Java's own floats, boxes and orders:
 * for random runs that compare it with DecisionArrays. Each call leaves its code in 'code'.
 */
final class Model {
    static final class Table {
        int kind;
        int depth;
        int cls;
        /** Boxed values, numbers of THINGS (Integer), or Tables. */
        Object[] cells;
        boolean[] pins;
    }

    static final class Spot {
        final Table table;
        final int index;
        final List<Long> candidates = new ArrayList<>();

        Spot(Table table, int index) {
            this.table = table;
            this.index = index;
        }
    }

    static final class Judge {
        int sort;
        Table table;
        int weight;
        long low;
        long high;
    }

    final List<Table> tables = new ArrayList<>();
    final List<Spot> spots = new ArrayList<>();
    final List<Judge> judges = new ArrayList<>();
    final List<List<Object[]>> marks = new ArrayList<>();
    final List<List<boolean[]>> markedPins = new ArrayList<>();
    int code = 0;

    private long fail(int c) {
        code = c;
        return -c;
    }

    private long ok(long answer) {
        code = 0;
        return answer;
    }

    private boolean no(int a) {
        return a < 0 || a >= tables.size();
    }

    private static boolean badKind(int kind) {
        return kind < 0 || kind > 8;
    }

    private int elements() {
        int n = 0;
        for (Table t : tables) {
            n += t.cells.length;
        }
        return n;
    }

    // ---- values

    /** null: none of the kind. */
    static Object box(int kind, long bits) {
        switch (kind) {
            case 0: return bits == 0 ? Boolean.FALSE : bits == 1 ? Boolean.TRUE : null;
            case 1: return bits == (char) bits ? (Object) (char) bits : null;
            case 2: return bits == (byte) bits ? (Object) (byte) bits : null;
            case 3: return bits == (short) bits ? (Object) (short) bits : null;
            case 4: return bits == (int) bits ? (Object) (int) bits : null;
            case 5: return bits;
            case 6: return bits == (int) bits ? (Object) Float.intBitsToFloat((int) bits) : null;
            case 7: return Double.longBitsToDouble(bits);
            default: return bits >= 0 && bits <= 1000 ? (Object) (int) bits : null;
        }
    }

    static long bits(Object value) {
        if (value instanceof Boolean b) {
            return b ? 1 : 0;
        }
        if (value instanceof Character c) {
            return c;
        }
        if (value instanceof Float f) {
            return Float.floatToIntBits(f);
        }
        if (value instanceof Double d) {
            return Double.doubleToLongBits(d);
        }
        return ((Number) value).longValue();
    }

    /** null: does not widen. */
    static Object widen(int from, int to, Object v) {
        if (from == to) {
            return v;
        }
        if (from == 0 || from == 8 || to == 0 || to == 8 || to == 1 || to == 2) {
            return null;
        }
        if (from == 1) {
            char c = (Character) v;
            switch (to) {
                case 4: return (int) c;
                case 5: return (long) c;
                case 6: return (float) c;
                case 7: return (double) c;
                default: return null;
            }
        }
        if (from > to) {
            return null;
        }
        Number n = (Number) v;
        switch (to) {
            case 3: return n.shortValue();
            case 4: return n.intValue();
            case 5: return n.longValue();
            case 6: return n.floatValue();
            default: return n.doubleValue();
        }
    }

    static Object zero(int kind) {
        return box(kind, 0);
    }

    @SuppressWarnings({"unchecked", "rawtypes"})
    static int order(Object x, Object y) {
        return ((Comparable) x).compareTo(y);
    }

    static long number(Object v) {
        if (v instanceof Float f) {
            return (long) (float) f;
        }
        if (v instanceof Double d) {
            return (long) (double) d;
        }
        return bits(v);
    }

    static boolean equal(Object x, Object y) {
        if (x instanceof Float f) {
            return f.floatValue() == ((Float) y).floatValue();
        }
        if (x instanceof Double d) {
            return d.doubleValue() == ((Double) y).doubleValue();
        }
        return x.equals(y);
    }

    private static boolean takes(Table t, Object v) {
        return t.kind != 8 || t.cls < 0 || (Integer) v == 0 || (Integer) v % 7 == t.cls;
    }

    // ---- arrays

    private long make(int kind, int depth, int cls, int n) {
        if (n < 0) {
            return fail(4);
        }
        if (n > 200 || tables.size() >= 60 || elements() + n > 4000) {
            return fail(8);
        }
        return ok(raw(kind, depth, cls, n));
    }

    private int raw(int kind, int depth, int cls, int n) {
        Table t = new Table();
        t.kind = kind;
        t.depth = depth;
        t.cls = cls;
        t.cells = new Object[n];
        t.pins = new boolean[n];
        if (depth == 1) {
            Arrays.fill(t.cells, zero(kind));
        }
        tables.add(t);
        return tables.size() - 1;
    }

    long array(int kind, int n) {
        return badKind(kind) ? fail(9) : make(kind, 1, -1, n);
    }

    long things(int cls, int n) {
        return cls < 0 || cls > 6 ? fail(9) : make(8, 1, cls, n);
    }

    long rows(int a, int n) {
        if (no(a)) {
            return fail(5);
        }
        Table t = tables.get(a);
        return t.depth == 4 ? fail(9) : make(t.kind, t.depth + 1, t.cls, n);
    }

    long grid(int kind, int depth, int... n) {
        if (kind < 0 || kind > 7 || depth < 1 || depth > 4) {
            return fail(9);
        }
        for (int q = 0; q < depth; q++) {
            if (n[q] < 0) {
                return fail(4);
            }
        }
        double arrays = 0;
        double cells = 0;
        double layer = 1;
        for (int q = 0; q < depth; q++) {
            arrays += layer;
            layer *= n[q];
            cells += layer;
            if (n[q] > 200) {
                return fail(8);
            }
        }
        if (tables.size() + arrays > 60 || elements() + cells > 4000) {
            return fail(8);
        }
        return ok(gridAt(kind, depth, n, 0));
    }

    private int gridAt(int kind, int depth, int[] n, int q) {
        int made = raw(kind, depth - q, -1, n[q]);
        if (q + 1 < depth) {
            for (int i = 0; i < n[q]; i++) {
                tables.get(made).cells[i] = tables.get(gridAt(kind, depth, n, q + 1));
            }
        }
        return made;
    }

    long about(int a, int what) {
        if (no(a)) {
            return fail(5);
        }
        Table t = tables.get(a);
        int nulls = 0;
        int pins = 0;
        for (int i = 0; i < t.cells.length; i++) {
            nulls += t.cells[i] == null ? 1 : 0;
            pins += t.pins[i] ? 1 : 0;
        }
        int[] all = {t.kind, t.depth, t.cells.length, t.cls, nulls, pins};
        return what < 0 || what > 5 ? fail(9) : ok(all[what]);
    }

    long row(int a, int i) {
        code = no(a) ? 5 : tables.get(a).depth == 1 ? 1 : i < 0 || i >= tables.get(a).cells.length ? 2 : 0;
        return code != 0 ? -1 : tables.indexOf(tables.get(a).cells[i]);
    }

    long setRow(int a, int i, int r) {
        if (no(a) || (r != -1 && no(r))) {
            return fail(5);
        }
        Table t = tables.get(a);
        if (i < 0 || i >= t.cells.length) {
            return fail(2);
        }
        if (t.depth == 1) {
            return fail(1);
        }
        Table u = r == -1 ? null : tables.get(r);
        if (u != null && (u.kind != t.kind || u.cls != t.cls || u.depth != t.depth - 1)) {
            return fail(1);
        }
        t.cells[i] = u;
        return ok(0);
    }

    // ---- elements

    /** null with a code. */
    private Spot walk(int a, int... path) {
        Table t = tables.get(a);
        int step = 0;
        while (true) {
            if (t == null) {
                fail(3);
                return null;
            }
            int at = path[step++];
            if (at < 0 || at >= t.cells.length) {
                fail(2);
                return null;
            }
            if (t.depth == 1) {
                return new Spot(t, at);
            }
            t = (Table) t.cells[at];
        }
    }

    long read(int a, int i, int j, int k, int l, int reader) {
        if (no(a)) {
            fail(5);
            return 0;
        }
        if (badKind(reader)) {
            fail(9);
            return 0;
        }
        Spot s = walk(a, i, j, k, l);
        if (s == null) {
            return 0;
        }
        Object v = widen(s.table.kind, reader, s.table.cells[s.index]);
        if (v == null) {
            fail(1);
            return 0;
        }
        return ok(bits(v));
    }

    long write(int a, int i, int j, int k, int l, int writer, long bits) {
        if (no(a)) {
            return fail(5);
        }
        if (badKind(writer) || box(writer, bits) == null) {
            return fail(9);
        }
        Spot s = walk(a, i, j, k, l);
        if (s == null) {
            return -code;
        }
        Object v = widen(writer, s.table.kind, box(writer, bits));
        if (v == null) {
            return fail(1);
        }
        if (s.table.pins[s.index]) {
            return fail(6);
        }
        if (!takes(s.table, v)) {
            return fail(7);
        }
        s.table.cells[s.index] = v;
        return ok(0);
    }

    long place(int a, int i, int j, int k, int l) {
        if (no(a)) {
            return fail(5);
        }
        Spot s = walk(a, i, j, k, l);
        return s == null ? -code : ok(tables.indexOf(s.table) * 1000 + s.index);
    }

    long pin(int a, int i, int j, int k, int l, boolean on) {
        if (no(a)) {
            return fail(5);
        }
        Spot s = walk(a, i, j, k, l);
        if (s == null) {
            return -code;
        }
        boolean was = s.table.pins[s.index];
        s.table.pins[s.index] = on;
        return ok(was ? 1 : 0);
    }

    long column(int kind, int n) {
        if (badKind(kind) || n < 0) {
            return fail(9);
        }
        List<Integer> all = new ArrayList<>();
        for (int a = 0; a < tables.size(); a++) {
            Table t = tables.get(a);
            for (int i = 0; t.depth == 1 && t.kind == kind && i < t.cells.length; i++) {
                all.add(a * 1000 + i);
            }
        }
        return ok(n < all.size() ? all.get(n) : -2);
    }

    long widens(int from, int to) {
        if (badKind(from) || badKind(to)) {
            return fail(9);
        }
        return ok(widen(from, to, zero(from)) == null ? 0 : 1);
    }

    // ---- whole arrays

    private static boolean pinned(Table t, int from, int to) {
        for (int i = from; i < to; i++) {
            if (t.pins[i]) {
                return true;
            }
        }
        return false;
    }

    long fill(int a, int from, int to, int writer, long bits) {
        if (no(a)) {
            return fail(5);
        }
        if (badKind(writer) || box(writer, bits) == null) {
            return fail(9);
        }
        Table t = tables.get(a);
        Object v = widen(writer, t.kind, box(writer, bits));
        if (t.depth > 1 || v == null) {
            return fail(1);
        }
        if (from < 0 || to > t.cells.length || from > to) {
            return fail(2);
        }
        if (pinned(t, from, to)) {
            return fail(6);
        }
        if (!takes(t, v)) {
            return fail(7);
        }
        Arrays.fill(t.cells, from, to, v);
        return ok(to - from);
    }

    long move(int a, int i, int b, int k, int n) {
        if (no(a) || no(b)) {
            return fail(5);
        }
        Table t = tables.get(a);
        Table u = tables.get(b);
        if (t.kind != u.kind || t.depth != u.depth || (t.depth > 1 && t.cls != u.cls)) {
            return fail(1);
        }
        if (n < 0) {
            return fail(4);
        }
        if (i < 0 || k < 0 || (long) i + n > t.cells.length || (long) k + n > u.cells.length) {
            return fail(2);
        }
        if (pinned(u, k, k + n)) {
            return fail(6);
        }
        Object[] all = Arrays.copyOfRange(t.cells, i, i + n);
        for (int q = 0; q < n; q++) {
            if (t.depth == 1 && !takes(u, all[q])) {
                return fail(7);
            }
            u.cells[k + q] = all[q];
        }
        return ok(n);
    }

    long copy(int a, int m) {
        if (no(a)) {
            return fail(5);
        }
        Table t = tables.get(a);
        long made = make(t.kind, t.depth, t.cls, m);
        for (int i = 0; made >= 0 && i < Math.min(m, t.cells.length); i++) {
            tables.get((int) made).cells[i] = t.cells[i];
        }
        return made;
    }

    long deep(int a) {
        if (no(a)) {
            return fail(5);
        }
        int[] need = {0, 0};
        weigh(tables.get(a), need);
        if (tables.size() + need[0] > 60 || elements() + need[1] > 4000) {
            return fail(8);
        }
        return ok(tables.indexOf(twin(tables.get(a))));
    }

    private void weigh(Table t, int[] need) {
        need[0]++;
        need[1] += t.cells.length;
        if (t.depth > 1 && need[0] <= 60) {
            for (Object r : t.cells) {
                if (r != null) {
                    weigh((Table) r, need);
                }
            }
        }
    }

    private Table twin(Table t) {
        Table u = tables.get(raw(t.kind, t.depth, t.cls, t.cells.length));
        for (int i = 0; i < t.cells.length; i++) {
            u.cells[i] = t.depth > 1 && t.cells[i] != null ? twin((Table) t.cells[i]) : t.cells[i];
        }
        return u;
    }

    long sort(int a, int from, int to) {
        if (no(a)) {
            return fail(5);
        }
        Table t = tables.get(a);
        if (t.depth > 1) {
            return fail(1);
        }
        if (from < 0 || to > t.cells.length || from > to) {
            return fail(2);
        }
        if (pinned(t, from, to)) {
            return fail(6);
        }
        Object[] before = t.cells.clone();
        Arrays.sort(t.cells, from, to, Model::order);
        int changed = 0;
        for (int i = 0; i < before.length; i++) {
            changed += before[i].equals(t.cells[i]) ? 0 : 1;
        }
        return ok(changed);
    }

    long search(int a, long bits) {
        if (no(a)) {
            return fail(5);
        }
        Table t = tables.get(a);
        Object key = box(t.kind, bits);
        if (key == null) {
            return fail(9);
        }
        if (t.depth > 1) {
            return fail(1);
        }
        int found = Arrays.binarySearch(t.cells, key, Model::order);
        return ok(found >= 0 ? found : -100 - (-found - 1));
    }

    long same(int a, int b) {
        return no(a) || no(b) ? fail(5) : ok(same(tables.get(a), tables.get(b)) ? 1 : 0);
    }

    private static boolean same(Table t, Table u) {
        if (t == u) {
            return true;
        }
        if (t == null || u == null || t.kind != u.kind || t.depth != u.depth || t.cells.length != u.cells.length) {
            return false;
        }
        for (int i = 0; i < t.cells.length; i++) {
            boolean alike = t.depth > 1 ? same((Table) t.cells[i], (Table) u.cells[i]) : t.cells[i].equals(u.cells[i]);
            if (!alike) {
                return false;
            }
        }
        return true;
    }

    long hash(int a) {
        if (no(a)) {
            fail(5);
            return 0;
        }
        return ok(Arrays.deepHashCode(nested(tables.get(a))));
    }

    private static Object[] nested(Table t) {
        Object[] all = new Object[t.cells.length];
        for (int i = 0; i < all.length; i++) {
            all[i] = t.depth > 1 && t.cells[i] != null ? nested((Table) t.cells[i]) : t.cells[i];
        }
        return all;
    }

    // ---- decisions

    private boolean noSpot(int d) {
        return d < 0 || d >= spots.size();
    }

    long decide(int a, int i, int j, int k, int l) {
        if (no(a)) {
            return fail(5);
        }
        Spot s = walk(a, i, j, k, l);
        if (s == null) {
            return -code;
        }
        for (int d = 0; d < spots.size(); d++) {
            if (spots.get(d).table == s.table && spots.get(d).index == s.index) {
                return ok(d);
            }
        }
        if (spots.size() == 24) {
            return fail(8);
        }
        spots.add(s);
        return ok(spots.size() - 1);
    }

    long candidate(int d, long bits) {
        if (noSpot(d)) {
            return fail(9);
        }
        Spot s = spots.get(d);
        Object v = box(s.table.kind, bits);
        if (v == null || v.equals(Float.NaN) || v.equals(Double.NaN) || s.candidates.contains(bits)) {
            return fail(9);
        }
        if (!takes(s.table, v)) {
            return fail(7);
        }
        if (s.candidates.size() == 16) {
            return fail(8);
        }
        s.candidates.add(bits);
        return ok(s.candidates.size());
    }

    long span(int d, long low, long high, long step) {
        if (noSpot(d) || step < 1) {
            return fail(9);
        }
        Spot s = spots.get(d);
        int kind = s.table.kind;
        if (kind < 1 || kind > 5 || box(kind, low) == null || box(kind, high) == null) {
            return fail(9);
        }
        List<Long> all = new ArrayList<>(s.candidates);
        java.math.BigInteger v = java.math.BigInteger.valueOf(low);
        while (v.compareTo(java.math.BigInteger.valueOf(high)) <= 0) {
            if (!all.contains(v.longValueExact())) {
                all.add(v.longValueExact());
            }
            if (all.size() > 16) {
                return fail(8);
            }
            v = v.add(java.math.BigInteger.valueOf(step));
        }
        s.candidates.clear();
        s.candidates.addAll(all);
        return ok(all.size());
    }

    long choose(int d, int c) {
        if (noSpot(d) || c < 0 || c >= spots.get(d).candidates.size()) {
            return fail(9);
        }
        Spot s = spots.get(d);
        if (s.table.pins[s.index]) {
            return fail(6);
        }
        s.table.cells[s.index] = box(s.table.kind, s.candidates.get(c));
        return ok(0);
    }

    long decision(int d, int what) {
        if (noSpot(d) || what < 0 || what > 3) {
            return fail(9);
        }
        Spot s = spots.get(d);
        int which = s.candidates.indexOf(bits(s.table.cells[s.index]));
        int[] all = {tables.indexOf(s.table), s.index, s.candidates.size(), which < 0 ? -2 : which};
        return ok(all[what]);
    }

    long candidateOf(int d, int c) {
        if (noSpot(d) || c < 0 || c >= spots.get(d).candidates.size()) {
            fail(9);
            return 0;
        }
        return ok(spots.get(d).candidates.get(c));
    }

    // ---- rules

    long rule(int sort, int a, int weight, long low, long high) {
        if (no(a)) {
            return fail(5);
        }
        Table t = tables.get(a);
        if (sort < 0 || sort > 5 || weight < -1000 || weight > 1000 || (sort == 3 && box(t.kind, low) == null)) {
            return fail(9);
        }
        if (t.depth > 1) {
            return fail(1);
        }
        if (judges.size() == 12) {
            return fail(8);
        }
        Judge judge = new Judge();
        judge.sort = sort;
        judge.table = t;
        judge.weight = weight;
        judge.low = low;
        judge.high = high;
        judges.add(judge);
        return ok(judges.size() - 1);
    }

    private static long apart(long x, long y) {
        java.math.BigInteger far = java.math.BigInteger.valueOf(x).subtract(java.math.BigInteger.valueOf(y)).abs();
        return far.min(java.math.BigInteger.valueOf(1000000)).longValue();
    }

    private static long amount(Judge judge) {
        Object[] c = judge.table.cells;
        long sum = 0;
        long pairs = 0;
        long falls = 0;
        long found = 0;
        long changes = 0;
        long far = 0;
        Object wanted = box(judge.table.kind, judge.low);
        for (int i = 0; i < c.length; i++) {
            sum += number(c[i]);
            found += c[i].equals(wanted) ? 1 : 0;
            for (int q = 0; q < i; q++) {
                pairs += equal(c[q], c[i]) ? 1 : 0;
            }
            if (i > 0) {
                falls += order(c[i], c[i - 1]) < 0 ? 1 : 0;
                changes += c[i].equals(c[i - 1]) ? 0 : 1;
                far = Math.max(far, apart(number(c[i]), number(c[i - 1])));
            }
        }
        switch (judge.sort) {
            case 0: return sum < judge.low ? apart(judge.low, sum) : sum > judge.high ? apart(sum, judge.high) : 0;
            case 1: return pairs;
            case 2: return falls;
            case 3: return apart(found, judge.high);
            case 4: return changes;
            default: return far;
        }
    }

    long amount(int r) {
        if (r < 0 || r >= judges.size()) {
            fail(9);
            return 0;
        }
        return ok(amount(judges.get(r)));
    }

    long score() {
        long sum = 0;
        for (Judge judge : judges) {
            sum += amount(judge) * judge.weight;
        }
        return sum;
    }

    private List<Spot> free() {
        List<Spot> free = new ArrayList<>();
        for (Spot s : spots) {
            if (!s.candidates.isEmpty() && !s.table.pins[s.index]) {
                free.add(s);
            }
        }
        return free;
    }

    private long ways() {
        double ways = 1;
        for (Spot s : free()) {
            ways *= s.candidates.size();
        }
        return ways > 5000 ? 5001 : (long) ways;
    }

    private Object[] bestValues;
    private long bestScore;

    long best() {
        long ways = ways();
        if (ways > 5000) {
            return fail(8);
        }
        List<Spot> free = free();
        bestValues = null;
        tryFrom(free, 0);
        for (int q = 0; q < free.size(); q++) {
            free.get(q).table.cells[free.get(q).index] = bestValues[q];
        }
        return ok(ways);
    }

    private void tryFrom(List<Spot> free, int q) {
        if (q == free.size()) {
            long score = score();
            if (bestValues == null || score < bestScore) {
                bestScore = score;
                bestValues = new Object[q];
                for (int w = 0; w < q; w++) {
                    bestValues[w] = free.get(w).table.cells[free.get(w).index];
                }
            }
            return;
        }
        Spot s = free.get(q);
        for (long bits : s.candidates) {
            s.table.cells[s.index] = box(s.table.kind, bits);
            tryFrom(free, q + 1);
        }
    }

    // ---- marks

    long mark() {
        if (marks.size() == 8) {
            return fail(8);
        }
        List<Object[]> cells = new ArrayList<>();
        List<boolean[]> pins = new ArrayList<>();
        for (Table t : tables) {
            cells.add(t.cells.clone());
            pins.add(t.pins.clone());
        }
        marks.add(cells);
        markedPins.add(pins);
        return ok(marks.size());
    }

    long back() {
        if (marks.isEmpty()) {
            return fail(9);
        }
        List<Object[]> cells = marks.remove(marks.size() - 1);
        List<boolean[]> pins = markedPins.remove(marks.size());
        for (int a = 0; a < cells.size(); a++) {
            tables.get(a).cells = cells.get(a);
            tables.get(a).pins = pins.get(a);
        }
        return ok(marks.size());
    }

    long count(int what) {
        long[] all = {tables.size(), elements(), spots.size(), judges.size(), marks.size(), ways()};
        return what < 0 || what > 5 ? fail(9) : ok(all[what]);
    }
}
