import java.lang.management.ManagementFactory;
import java.lang.management.ThreadMXBean;
import java.lang.reflect.Array;
import java.lang.reflect.Field;
import java.lang.reflect.Modifier;
import java.util.Collections;
import java.util.IdentityHashMap;
import java.util.Set;

/** What a run makes stays small: rows are made once and used again, whatever is called and how often. */
public final class RoomTest {
    private static final int MOST_OBJECTS = 100;
    private static final int MOST_ELEMENTS = 80000;
    /** Kept, since asking for it makes objects. */
    private static final ThreadMXBean COUNTER = ManagementFactory.getThreadMXBean();
    private static final long THREAD = Thread.currentThread().getId();

    private static int objects;
    private static int elements;

    public static void main(String[] args) throws IllegalAccessException {
        // The machine's own classes are made when they are first used, which is not to be counted.
        for (int turn = 0; turn < 50; turn++) {
            everyCall(full(), turn);
            madeSoFar();
        }
        DecisionArrays x = full();
        kept(x);
        int objectsBefore = objects;
        int elementsBefore = elements;
        Due.isTrue("objects of a full one: " + objects, objects <= MOST_OBJECTS);
        Due.isTrue("elements of a full one: " + elements, elements <= MOST_ELEMENTS);
        long before = madeSoFar();
        for (int turn = 0; turn < 6; turn++) {
            everyCall(x, turn);
        }
        long made = madeSoFar() - before;
        Due.is("bytes made by calls on a full one", made, 0);
        kept(x);
        Due.is("objects afterwards", objects, objectsBefore);
        Due.is("elements afterwards", elements, elementsBefore);
        Due.end();
    }

    /** As many arrays, elements, DECISIONS, CANDIDATES, RULES and MARKS as there can be. */
    private static DecisionArrays full() {
        DecisionArrays x = new DecisionArrays();
        x.array(4, 200);
        for (int a = 1; a < 4; a++) {
            x.rows(a - 1, 2);
            x.setRow(a, 1, a - 1);
        }
        for (int a = 4; a < 60; a++) {
            x.array(a % 9, 67);
        }
        for (int d = 0; d < 24; d++) {
            x.span(x.decide(0, d, 0, 0, 0), 1, d < 3 ? 16 : 1, 1);
        }
        for (int r = 0; r < 12; r++) {
            x.rule(r % 6, 0, 1, 3, 4);
        }
        for (int m = 0; m < 8; m++) {
            x.mark();
        }
        Due.is("arrays", x.count(0), 60);
        Due.is("DECISIONS", x.count(2), 24);
        Due.is("RULES", x.count(3), 12);
        Due.is("MARKS", x.count(4), 8);
        return x;
    }

    private static void everyCall(DecisionArrays x, int turn) {
        x.array(4, 5);
        x.things(3, 5);
        x.rows(0, 5);
        x.grid(4, 3, 2, 2, 2, 0);
        x.about(3, 4);
        x.row(3, 1);
        x.setRow(3, 1, 2);
        x.read(3, 1, 1, 1, turn, 7);
        x.write(3, 1, 1, 1, turn + 30, 2, turn);
        x.place(3, 1, 1, 1, 0);
        x.pin(3, 1, 1, 1, 199, turn % 2 == 0);
        x.column(4, 300);
        x.code();
        x.widens(2, 7);
        x.fill(0, 40, 60, 3, turn);
        x.move(0, 20, 0, 24, 40);
        x.copy(3, 2);
        x.deep(3);
        x.sort(0, 24, 199);
        x.search(0, 3);
        x.same(3, 2);
        x.hash(3);
        x.decide(3, 1, 1, 1, 3);
        x.candidate(2, 90);
        x.span(2, 1, 16, 5);
        x.choose(2, turn % 16);
        x.decision(2, 3);
        x.candidateOf(2, 3);
        x.rule(0, 0, 1, 0, 0);
        x.amount(5);
        x.score();
        x.best();
        x.back();
        x.mark();
        x.count(5);
    }

    private static void kept(DecisionArrays x) throws IllegalAccessException {
        objects = 0;
        elements = 0;
        count(x, Collections.newSetFromMap(new IdentityHashMap<>()));
    }

    private static void count(Object thing, Set<Object> known) throws IllegalAccessException {
        if (thing == null || !known.add(thing)) {
            return;
        }
        objects++;
        if (thing.getClass().isArray()) {
            elements += Array.getLength(thing);
            if (!thing.getClass().getComponentType().isPrimitive()) {
                for (Object part : (Object[]) thing) {
                    count(part, known);
                }
            }
            return;
        }
        for (Field field : thing.getClass().getDeclaredFields()) {
            if (!Modifier.isStatic(field.getModifiers())) {
                elements++;
                field.setAccessible(true);
                if (!field.getType().isPrimitive()) {
                    count(field.get(thing), known);
                }
            }
        }
    }

    /** Bytes that this thread has made; always 0 on a machine that does not count them. */
    private static long madeSoFar() {
        if (COUNTER instanceof com.sun.management.ThreadMXBean bean && bean.isThreadAllocatedMemorySupported()) {
            return bean.getThreadAllocatedBytes(THREAD);
        }
        return 0;
    }
}
