/** Promises 1 to 8: the new object; array, things, rows, grid, about, row, setRow. */
public final class ArraysTest {
    public static void main(String[] args) {
        newObject();
        array();
        things();
        rows();
        grid();
        gridBounds();
        about();
        row();
        setRow();
        Due.end();
    }

    private static void newObject() {
        DecisionArrays x = new DecisionArrays();
        Due.is("1 code", x.code(), 0);
        for (int what = 0; what < 5; what++) {
            Due.fine("1 count " + what, x, x.count(what), 0);
        }
        Due.fine("1 ways", x, x.count(5), 1);
        Due.is("1 score", x.score(), 0);
        Due.fails("1 about", x, x.about(0, 0), 5);
        Due.fails("1 back", x, x.back(), 9);
        Due.fails("1 decision", x, x.decision(0, 0), 9);
        Due.fails("1 amount", x, x.amount(0), 0, 9);
    }

    private static void array() {
        DecisionArrays x = new DecisionArrays();
        for (int kind = 0; kind <= 8; kind++) {
            Due.fine("2 array", x, x.array(kind, kind), kind);
            Due.fine("2 kind", x, x.about(kind, 0), kind);
            Due.fine("2 depth", x, x.about(kind, 1), 1);
            Due.fine("2 length", x, x.about(kind, 2), kind);
            Due.fine("2 class", x, x.about(kind, 3), -1);
            for (int i = 0; i < kind; i++) {
                Due.fine("2 first bits", x, x.read(kind, i, 0, 0, 0, kind), 0);
            }
        }
        Due.fails("2 kind 9", x, x.array(9, 1), 9);
        Due.fails("2 kind -1", x, x.array(-1, 1), 9);
        Due.fails("2 kind ahead of length", x, x.array(9, -1), 9);
        Due.fails("2 kind ahead of bound", x, x.array(9, 201), 9);
        Due.fails("2 length -1", x, x.array(4, -1), 4);
        Due.fails("2 least length", x, x.array(4, Integer.MIN_VALUE), 4);
        Due.fails("2 length 201", x, x.array(4, 201), 8);
        Due.fails("2 greatest length", x, x.array(4, Integer.MAX_VALUE), 8);
        Due.fine("2 nothing made", x, x.count(0), 9);
        Due.fine("2 length 200", x, x.array(4, 200), 9);
        mostArrays();
        mostElements();
    }

    private static void mostArrays() {
        DecisionArrays x = new DecisionArrays();
        for (int a = 0; a < 60; a++) {
            Due.fine("2 one of 60", x, x.array(4, 0), a);
        }
        Due.fails("2 the 61st", x, x.array(4, 0), 8);
        Due.fails("2 length ahead of bound", x, x.array(4, -1), 4);
        Due.fails("3 the 61st", x, x.things(0, 0), 8);
        Due.fails("4 the 61st", x, x.rows(0, 0), 8);
        Due.fails("5 the 61st", x, x.grid(4, 1, 0, 0, 0, 0), 8);
        Due.fails("18 the 61st", x, x.copy(0, 0), 8);
        Due.fails("19 the 61st", x, x.deep(0), 8);
        Due.fine("2 sixty stay", x, x.count(0), 60);
    }

    private static void mostElements() {
        DecisionArrays x = new DecisionArrays();
        for (int a = 0; a < 19; a++) {
            x.array(5, 200);
        }
        Due.fine("2 199 more", x, x.array(5, 199), 19);
        Due.fails("2 beyond 4000", x, x.array(5, 2), 8);
        Due.fails("3 beyond 4000", x, x.things(5, 2), 8);
        Due.fails("4 beyond 4000", x, x.rows(0, 2), 8);
        Due.fails("5 beyond 4000", x, x.grid(4, 2, 1, 1, 0, 0), 8);
        Due.fails("18 beyond 4000", x, x.copy(0, 2), 8);
        Due.fails("19 beyond 4000", x, x.deep(0), 8);
        Due.fine("2 the last one", x, x.array(5, 1), 20);
        Due.fine("2 none", x, x.array(5, 0), 21);
        Due.fails("2 one more", x, x.array(5, 1), 8);
        Due.fine("2 all", x, x.count(1), 4000);
        Due.fine("2 write the last", x, x.write(20, 0, 0, 0, 0, 5, 7), 0);
        Due.fine("2 read the last", x, x.read(20, 0, 0, 0, 0, 5), 7);
        Due.fine("2 its neighbour", x, x.read(19, 198, 0, 0, 0, 5), 0);
    }

    private static void things() {
        DecisionArrays x = new DecisionArrays();
        for (int cls = 0; cls <= 6; cls++) {
            Due.fine("3 things", x, x.things(cls, 3), cls);
            Due.fine("3 kind", x, x.about(cls, 0), 8);
            Due.fine("3 depth", x, x.about(cls, 1), 1);
            Due.fine("3 length", x, x.about(cls, 2), 3);
            Due.fine("3 class", x, x.about(cls, 3), cls);
            Due.fine("3 null at first", x, x.read(cls, 2, 0, 0, 0, 8), 0);
        }
        Due.fails("3 class 7", x, x.things(7, 1), 9);
        Due.fails("3 class -1", x, x.things(-1, 1), 9);
        Due.fails("3 class ahead of length", x, x.things(7, -1), 9);
        Due.fails("3 length -1", x, x.things(0, -1), 4);
        Due.fails("3 length 201", x, x.things(0, 201), 8);
    }

    private static void rows() {
        DecisionArrays x = new DecisionArrays();
        Due.fails("4 no array", x, x.rows(0, 1), 5);
        x.things(4, 2);
        Due.fine("4 depth 2", x, x.rows(0, 3), 1);
        Due.fine("4 kind", x, x.about(1, 0), 8);
        Due.fine("4 depth", x, x.about(1, 1), 2);
        Due.fine("4 length", x, x.about(1, 2), 3);
        Due.fine("4 class", x, x.about(1, 3), 4);
        Due.fine("4 null at first", x, x.about(1, 4), 3);
        Due.fine("4 row 2", x, x.row(1, 2), -1);
        Due.fails("4 length -1", x, x.rows(1, -1), 4);
        Due.fails("4 length 201", x, x.rows(1, 201), 8);
        Due.fine("4 depth 3", x, x.rows(1, 0), 2);
        Due.fine("4 depth 4", x, x.rows(2, 200), 3);
        Due.fails("4 depth 5", x, x.rows(3, 1), 9);
        Due.fails("4 depth ahead of length", x, x.rows(3, -1), 9);
        Due.fails("4 array -1", x, x.rows(-1, -1), 5);
        Due.fails("4 array 4", x, x.rows(4, 201), 5);
        Due.fine("4 count", x, x.count(0), 4);
    }

    private static void grid() {
        DecisionArrays x = new DecisionArrays();
        x.array(0, 1);
        Due.fine("5 grid", x, x.grid(3, 4, 1, 2, 2, 3), 1);
        int[] depths = {4, 3, 2, 1, 1, 2, 1, 1};
        int[] lengths = {1, 2, 2, 3, 3, 2, 3, 3};
        for (int q = 0; q < depths.length; q++) {
            Due.fine("5 kind", x, x.about(1 + q, 0), 3);
            Due.fine("5 depth", x, x.about(1 + q, 1), depths[q]);
            Due.fine("5 length", x, x.about(1 + q, 2), lengths[q]);
            Due.fine("5 class", x, x.about(1 + q, 3), -1);
            Due.fine("5 no nulls", x, x.about(1 + q, 4), 0);
        }
        Due.fine("5 row of 1", x, x.row(1, 0), 2);
        Due.fine("5 row of 2", x, x.row(2, 0), 3);
        Due.fine("5 next row of 2", x, x.row(2, 1), 6);
        Due.fine("5 row of 3", x, x.row(3, 1), 5);
        Due.fine("5 row of 6", x, x.row(6, 0), 7);
        Due.fine("5 nothing but these", x, x.count(0), 9);
        Due.fine("5 depth 1, others free", x, x.grid(7, 1, 2, -1, 999, -9), 9);
        Due.fine("5 no rows", x, x.grid(7, 3, 0, 5, 5, 0), 10);
        Due.fine("5 only it", x, x.count(0), 11);
        Due.fine("5 rows of 0", x, x.grid(7, 2, 2, 0, 5, 0), 11);
        Due.fine("5 three", x, x.count(0), 14);
    }

    private static void gridBounds() {
        DecisionArrays x = new DecisionArrays();
        Due.fails("5 kind 8", x, x.grid(8, 1, 1, 1, 1, 1), 9);
        Due.fails("5 kind -1", x, x.grid(-1, 1, 1, 1, 1, 1), 9);
        Due.fails("5 depth 0", x, x.grid(4, 0, 1, 1, 1, 1), 9);
        Due.fails("5 depth 5", x, x.grid(4, 5, -1, 1, 1, 1), 9);
        Due.fails("5 length -1", x, x.grid(4, 2, 1, -1, 1, 1), 4);
        Due.fails("5 length -1 in no row", x, x.grid(4, 2, 0, -1, 1, 1), 4);
        Due.fails("5 length ahead of bound", x, x.grid(4, 4, 201, 1, 1, -1), 4);
        Due.fails("5 length 201", x, x.grid(4, 1, 201, 1, 1, 1), 8);
        Due.fails("5 length 201 below", x, x.grid(4, 2, 1, 201, 1, 1), 8);
        Due.fails("5 greatest lengths", x,
            x.grid(4, 4, Integer.MAX_VALUE, Integer.MAX_VALUE, Integer.MAX_VALUE, Integer.MAX_VALUE), 8);
        Due.fails("5 61 arrays", x, x.grid(4, 2, 60, 1, 1, 1), 8);
        Due.fails("5 4020 elements", x, x.grid(4, 2, 20, 200, 1, 1), 8);
        Due.fails("5 200 all through", x, x.grid(4, 4, 200, 200, 200, 200), 8);
        Due.fine("5 nothing made", x, x.count(0), 0);
        Due.fine("5 no elements", x, x.count(1), 0);
        Due.fine("5 60 arrays", x, x.grid(4, 2, 59, 1, 1, 1), 0);
        Due.fine("5 59 rows", x, x.count(0), 60);
        Due.fails("5 length -1 at first", x, x.grid(4, 1, -1, 1, 1, 1), 4);
        DecisionArrays z = new DecisionArrays();
        Due.fine("5 booleans", z, z.grid(0, 2, 1, 200, 0, 0), 0);
        Due.fine("5 200 long", z, z.about(1, 2), 200);
        DecisionArrays y = new DecisionArrays();
        Due.fine("5 most elements", y, y.grid(4, 2, 20, 199, 1, 1), 0);
        Due.fine("5 4000", y, y.count(1), 4000);
    }

    private static void about() {
        DecisionArrays x = new DecisionArrays();
        x.things(2, 3);
        x.rows(0, 4);
        x.setRow(1, 2, 0);
        x.pin(0, 1, 0, 0, 0, true);
        x.pin(0, 2, 0, 0, 0, true);
        int[] due = {8, 1, 3, 2, 0, 2};
        int[] dueRows = {8, 2, 4, 2, 3, 0};
        for (int what = 0; what < 6; what++) {
            Due.fine("6 about " + what, x, x.about(0, what), due[what]);
            Due.fine("6 about rows " + what, x, x.about(1, what), dueRows[what]);
        }
        x.array(5, 2);
        x.fill(2, 0, 2, 5, -1);
        Due.fine("6 no rows, no nulls", x, x.about(2, 4), 0);
        Due.fails("6 what 6", x, x.about(0, 6), 9);
        Due.fails("6 what -1", x, x.about(0, -1), 9);
        Due.fails("6 no array", x, x.about(3, 0), 5);
        Due.fails("6 array ahead of what", x, x.about(-1, 6), 5);
    }

    private static void row() {
        DecisionArrays x = new DecisionArrays();
        x.array(4, 2);
        x.rows(0, 2);
        x.setRow(1, 0, 0);
        Due.fine("7 row", x, x.row(1, 0), 0);
        Due.fine("7 null", x, x.row(1, 1), -1);
        Due.fails("7 no array", x, x.row(2, 0), -1, 5);
        Due.fails("7 array -1", x, x.row(-1, 0), -1, 5);
        Due.fails("7 depth 1", x, x.row(0, 0), -1, 1);
        Due.fails("7 depth ahead of index", x, x.row(0, 9), -1, 1);
        Due.fails("7 index 2", x, x.row(1, 2), -1, 2);
        Due.fails("7 index -1", x, x.row(1, -1), -1, 2);
    }

    private static void setRow() {
        DecisionArrays x = new DecisionArrays();
        x.array(4, 2);
        x.rows(0, 2);
        x.array(5, 2);
        x.things(1, 2);
        x.things(2, 2);
        x.rows(3, 2);
        x.array(8, 2);
        Due.fine("8 set", x, x.setRow(1, 1, 0), 0);
        Due.fine("8 is set", x, x.row(1, 1), 0);
        Due.fine("8 shared", x, x.setRow(1, 0, 0), 0);
        Due.fine("8 null", x, x.setRow(1, 1, -1), 0);
        Due.fine("8 is null", x, x.row(1, 1), -1);
        Due.fine("8 things", x, x.setRow(5, 1, 3), 0);
        Due.fails("8 no array", x, x.setRow(7, 0, 0), 5);
        Due.fails("8 no row", x, x.setRow(1, 0, 7), 5);
        Due.fails("8 row -2", x, x.setRow(1, 0, -2), 5);
        Due.fails("8 row ahead of index", x, x.setRow(1, 2, 7), 5);
        Due.fails("8 index 2", x, x.setRow(1, 2, 0), 2);
        Due.fails("8 index -1", x, x.setRow(1, -1, -1), 2);
        Due.fails("8 index ahead of depth", x, x.setRow(0, 2, 0), 2);
        Due.fails("8 index ahead of kind", x, x.setRow(1, 2, 2), 2);
        Due.fails("8 depth 1", x, x.setRow(0, 0, 0), 1);
        Due.fails("8 depth 1, null", x, x.setRow(0, 0, -1), 1);
        Due.fails("8 another kind", x, x.setRow(1, 0, 2), 1);
        Due.fails("8 another class", x, x.setRow(5, 0, 4), 1);
        Due.fails("8 no class", x, x.setRow(5, 0, 6), 1);
        Due.fails("8 the same depth", x, x.setRow(1, 0, 1), 1);
        Due.fine("8 nothing changed", x, x.row(1, 0), 0);
        Due.fine("8 nothing changed there", x, x.row(5, 0), -1);
    }
}
