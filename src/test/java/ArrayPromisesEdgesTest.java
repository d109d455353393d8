/** Promises 1 to 15: the edges that each names, behind its sentence (what is refused: RefusedCallsTest). */
public final class ArrayPromisesEdgesTest {
    public static void main(String[] args) {
        newObject();
        array();
        things();
        rows();
        gridLengths();
        gridOrder();
        gridBounds();
        about();
        row();
        setRow();
        read();
        write();
        place();
        pin();
        column();
        code();
        widens();
        Due.end();
    }

    private static void newObject() {
        Due.says("No arrays, DECISIONS, RULES, MARKS; code() is 0.");
        DecisionArrays x = new DecisionArrays();
        Due.is("code", x.code(), 0);
        for (int what = 0; what <= 4; what++) {
            Due.fine("count " + what, x, x.count(what), 0);
        }
        Due.fails("no array 0", x, x.about(0, 0), 5);
        Due.fails("no decision 0", x, x.decision(0, 0), 9);
        Due.fails("no rule 0", x, x.amount(0), 0, 9);
        Due.fails("no mark", x, x.back(), 9);
        for (int kind = 0; kind <= 8; kind++) {
            Due.fine("no elements", x, x.column(kind, 0), -2);
        }
        Due.fine("one way", x, x.count(5), 1);
        Due.fine("the best of nothing", x, x.best(), 1);
        Due.is("score", x.score(), 0);
        x.array(4, 1);
        Due.is("another object is as new", new DecisionArrays().count(0), 0);
    }

    private static void array() {
        Due.says("A new array of a KIND (CLASS -1) of DEPTH 1, n long: its number. 9, 4, 8 (also n above 200).");
        DecisionArrays x = new DecisionArrays();
        Due.fine("0 long", x, x.array(0, 0), 0);
        Due.fine("200 long", x, x.array(8, 200), 1);
        Due.fails("201 long", x, x.array(8, 201), 8);
        Due.fails("far too long", x, x.array(8, Integer.MAX_VALUE), 8);
        Due.fails("-1 long", x, x.array(8, -1), 4);
        Due.fine("its length", x, x.about(0, 2), 0);
        Due.fine("its length", x, x.about(1, 2), 200);
        Due.fine("its class", x, x.about(1, 3), -1);
        Due.fine("its depth", x, x.about(1, 1), 1);
        Due.fine("two are made", x, x.count(0), 2);
    }

    private static void things() {
        Due.says("A new array of THINGS of a CLASS, of DEPTH 1, n long: its number. 9, 4, 8.");
        DecisionArrays x = new DecisionArrays();
        Due.fine("class 0", x, x.things(0, 0), 0);
        Due.fine("class 6", x, x.things(6, 200), 1);
        Due.fails("class 7", x, x.things(7, 1), 9);
        Due.fails("class -1", x, x.things(-1, 1), 9);
        Due.fails("-1 long", x, x.things(6, -1), 4);
        Due.fails("201 long", x, x.things(6, 201), 8);
        Due.fine("class 0 takes 7", x, x.write(x.things(0, 1), 0, 0, 0, 0, 8, 7), 0);
        Due.fine("its kind", x, x.about(1, 0), 8);
        Due.fine("its depth", x, x.about(1, 1), 1);
        Due.fine("its class", x, x.about(1, 3), 6);
    }

    private static void rows() {
        Due.says("A new array of ROWS as array a would be one (KIND, CLASS as of a, DEPTH one more), n long: its number. "
            + "5, 9 (a is of DEPTH 4), 4, 8.");
        DecisionArrays x = new DecisionArrays();
        x.things(5, 0);
        for (int depth = 2; depth <= 4; depth++) {
            Due.fine("depth " + depth, x, x.rows(depth - 2, depth == 4 ? 200 : 0), depth - 1);
            Due.fine("its kind", x, x.about(depth - 1, 0), 8);
            Due.fine("its depth", x, x.about(depth - 1, 1), depth);
            Due.fine("its class", x, x.about(depth - 1, 3), 5);
        }
        Due.fails("depth 5", x, x.rows(3, 1), 9);
        Due.fine("all null", x, x.about(3, 4), 200);
        Due.fine("a itself is no row of it", x, x.row(3, 0), -1);
        Due.fails("rows of the next number", x, x.rows(4, 1), 5);
    }

    private static void gridLengths() {
        Due.says("with all its ROWS, lengths n0, n1, .. as many as it is deep: its number;");
        int[] wild = {-1, 201, Integer.MIN_VALUE, Integer.MAX_VALUE};
        for (int rest : wild) {
            DecisionArrays x = new DecisionArrays();
            Due.fine("depth 1", x, x.grid(7, 1, 3, rest, rest, rest), 0);
            Due.fine("depth 2", x, x.grid(7, 2, 1, 3, rest, rest), 1);
            Due.fine("depth 3", x, x.grid(7, 3, 1, 1, 3, rest), 3);
            Due.fine("depth 4", x, x.grid(7, 4, 1, 1, 1, 3), 6);
            Due.fine("arrays", x, x.count(0), 10);
            Due.fine("elements", x, x.count(1), 3 + 4 + 5 + 6);
        }
        DecisionArrays x = new DecisionArrays();
        Due.fine("0 at the top", x, x.grid(7, 4, 0, 200, 200, 200), 0);
        Due.fine("no rows", x, x.count(0), 1);
        Due.fine("0 below", x, x.grid(7, 3, 2, 0, 200, 0), 1);
        Due.fine("two rows of none", x, x.count(0), 4);
        Due.fine("0 at the bottom", x, x.grid(7, 2, 2, 0, 0, 0), 4);
        Due.fine("two rows that are empty", x, x.count(0), 7);
        Due.fine("their depth", x, x.about(6, 1), 1);
    }

    private static void gridOrder() {
        Due.says("first it is made, then its ROWS by places, each with all below it ahead of the next.");
        DecisionArrays x = new DecisionArrays();
        x.array(4, 1);
        Due.fine("grid", x, x.grid(4, 3, 2, 2, 1, 0), 1);
        int[][] due = {{1, 0, 2}, {2, 0, 3}, {2, 1, 4}, {1, 1, 5}, {5, 0, 6}, {5, 1, 7}};
        for (int[] row : due) {
            Due.fine("row " + row[1] + " of " + row[0], x, x.row(row[0], row[1]), row[2]);
        }
        Due.fine("eight", x, x.count(0), 8);
        Due.fine("no nulls", x, x.about(1, 4) + x.about(2, 4) + x.about(5, 4), 0);
    }

    private static void gridBounds() {
        Due.says("A new array of a KIND 0 .. 7 of DEPTH 1 .. 4");
        DecisionArrays x = new DecisionArrays();
        for (int kind = 0; kind <= 7; kind++) {
            Due.fine("kind " + kind, x, x.grid(kind, 1, 1, 0, 0, 0), kind);
            Due.fine("its kind", x, x.about(kind, 0), kind);
            Due.fine("its class", x, x.about(kind, 3), -1);
        }
        Due.fails("kind 8", x, x.grid(8, 1, 1, 0, 0, 0), 9);
        Due.fails("kind 9", x, x.grid(9, 1, 1, 0, 0, 0), 9);
        Due.says("each with all below it ahead of the next. 9, 4, 8 (nothing is made).");
        DecisionArrays y = new DecisionArrays();
        Due.fails("61 arrays", y, y.grid(4, 2, 60, 0, 0, 0), 8);
        Due.fails("61 arrays, three deep", y, y.grid(4, 3, 4, 14, 0, 0), 8);
        Due.fails("61 arrays, four deep", y, y.grid(4, 4, 1, 1, 58, 0), 8);
        Due.fails("4001 elements", y, y.grid(4, 3, 1, 20, 199, 0), 8);
        Due.fails("4001 elements, four deep", y, y.grid(4, 4, 1, 1, 31, 128), 8);
        Due.fails("8 billion", y, y.grid(4, 4, 200, 200, 200, 200), 8);
        int all = Integer.MAX_VALUE;
        Due.fails("as many as can be told", y, y.grid(4, 4, all, all, all, all), 8);
        Due.fine("nothing is made", y, y.count(0), 0);
        Due.fine("no elements", y, y.count(1), 0);
        Due.fine("60 arrays", y, y.grid(4, 4, 1, 1, 57, 0), 0);
        Due.fine("60", y, y.count(0), 60);
        DecisionArrays z = new DecisionArrays();
        Due.fine("4000 elements", z, z.grid(4, 2, 20, 199, 0, 0), 0);
        Due.fine("4000", z, z.count(1), 4000);
        Due.fails("the last place", z, z.place(0, 19, 199, 0, 0), 2);
        Due.fine("the last place", z, z.place(0, 19, 198, 0, 0), 20198);
    }

    private static void about() {
        Due.says("Of an array: KIND (what = 0), DEPTH (1), length (2), CLASS (3), how many ROWS in it are null (4; 0 of "
            + "DEPTH 1), how many elements are PINNED (5). 5, 9.");
        DecisionArrays x = Make.of(5, -1, -1, 0);
        Due.fine("no nulls in depth 1", x, x.about(0, 4), 0);
        Due.fine("none pinned", x, x.about(0, 5), 0);
        for (int i = 0; i < 3; i++) {
            x.pin(0, i, 0, 0, 0, true);
            Due.fine("pinned", x, x.about(0, 5), i + 1);
        }
        x.rows(0, 3);
        Due.fine("all null", x, x.about(1, 4), 3);
        x.setRow(1, 0, 0);
        x.setRow(1, 2, 0);
        Due.fine("one null", x, x.about(1, 4), 1);
        x.setRow(1, 1, 0);
        Due.fine("no null", x, x.about(1, 4), 0);
        x.rows(0, 0);
        Make.add(x, 5, -1);
        Due.fine("no rows, no null", x, x.about(2, 4), 0);
        Due.fine("rows of 0", x, x.about(2, 2), 0);
        Due.fails("what 6", x, x.about(0, 6), 9);
        Due.fails("what -1", x, x.about(0, -1), 9);
    }

    private static void row() {
        Due.says("ROW i of an array: its number; -1 null. Codes by code() alone: 5, 1 (DEPTH 1), 2 (-1 is answered).");
        DecisionArrays x = Make.ladder(4, 2);
        Due.fine("null", x, x.row(1, 0), -1);
        Due.fine("array 0", x, x.row(1, 1), 0);
        Due.fine("of depth 4", x, x.row(3, 1), 2);
        Due.fails("behind the last", x, x.row(1, 2), -1, 2);
        Due.fails("ahead of the first", x, x.row(1, -1), -1, 2);
        Due.fails("depth 1", x, x.row(0, 0), -1, 1);
        Due.fails("depth 1, no index", x, x.row(0, 2), -1, 1);
        Due.fails("no array", x, x.row(4, 0), -1, 5);
        Due.fine("null again, without a code", x, x.row(1, 0), -1);
    }

    private static void setRow() {
        Due.says("ROW i of an array becomes array r (-1: null): 0. 5 (also r), 2, 1 (a is of DEPTH 1, r is not alike).");
        DecisionArrays x = Make.ladder(4, 2);
        Due.fine("the first", x, x.setRow(1, 0, 0), 0);
        Due.fine("is shared", x, x.row(1, 0), x.row(1, 1));
        Due.fine("what is there", x, x.setRow(1, 0, 0), 0);
        Due.fine("null", x, x.setRow(1, 1, -1), 0);
        Due.fine("is null", x, x.row(1, 1), -1);
        Due.fine("null again", x, x.setRow(1, 1, -1), 0);
        Due.fails("r -2", x, x.setRow(1, 1, -2), 5);
        Due.fails("r behind the last", x, x.setRow(1, 1, 4), 5);
        Due.fails("null in depth 1", x, x.setRow(0, 0, -1), 1);
        Due.fails("itself", x, x.setRow(1, 0, 1), 1);
        Due.fails("a deeper one", x, x.setRow(1, 0, 2), 1);
        Due.fails("two less", x, x.setRow(2, 0, 0), 1);
        Due.fine("a pinned element in it", x, x.pin(1, 0, 1, 0, 0, true), 0);
        Due.fine("rows are not pinned", x, x.setRow(1, 0, -1), 0);
    }

    private static void read() {
        Due.says("BITS of an element as one of a READER kind. 5, 9 (reader), 2, 3, 1.");
        DecisionArrays x = Make.of(2, -128, 127);
        Due.fine("the least byte", x, x.read(0, 0, 0, 0, 0, 2), -128);
        Due.fine("as a short", x, x.read(0, 0, 0, 0, 0, 3), -128);
        Due.fine("as a long", x, x.read(0, 1, 0, 0, 0, 5), 127);
        Due.fine("as a float", x, x.read(0, 0, 0, 0, 0, 6), Make.f(-128));
        Due.fine("as a double", x, x.read(0, 1, 0, 0, 0, 7), Make.d(127));
        for (int reader : new int[] {0, 1, 8}) {
            Due.fails("as kind " + reader, x, x.read(0, 0, 0, 0, 0, reader), 0, 1);
        }
        Due.fails("behind the last", x, x.read(0, 2, 0, 0, 0, 2), 0, 2);
        x.pin(0, 0, 0, 0, 0, true);
        Due.fine("a pinned one", x, x.read(0, 0, 0, 0, 0, 2), -128);
    }

    private static void write() {
        Due.says("An element becomes a value of a WRITER kind, widened: 0. 5, 9, 2, 3, 1, 6, 7.");
        DecisionArrays x = Make.of(7, 0);
        Due.fine("a char", x, x.write(0, 0, 0, 0, 0, 1, 65535), 0);
        Make.holds("a char", x, 0, Make.d(65535));
        Due.fails("a char below 0", x, x.write(0, 0, 0, 0, 0, 1, -1), 9);
        Due.fine("a byte", x, x.write(0, 0, 0, 0, 0, 2, -128), 0);
        Make.holds("a byte", x, 0, Make.d(-128));
        Due.fails("no byte, though a double", x, x.write(0, 0, 0, 0, 0, 2, 128), 9);
        Due.fine("a float", x, x.write(0, 0, 0, 0, 0, 6, 1), 0);
        Make.holds("a float", x, 0, Make.d(0x1p-149));
        Due.fine("a double", x, x.write(0, 0, 0, 0, 0, 7, 1), 0);
        Make.holds("a double", x, 0, 1);
        x.things(2, 1);
        Due.fine("a thing", x, x.write(1, 0, 0, 0, 0, 8, 2), 0);
        Due.fails("of another class", x, x.write(1, 0, 0, 0, 0, 8, 3), 7);
        Due.fine("null", x, x.write(1, 0, 0, 0, 0, 8, 0), 0);
        Make.holds("null", x, 1, 0);
        x.rows(1, 1);
        x.setRow(2, 0, 1);
        Due.fails("by a row, of another class", x, x.write(2, 0, 0, 0, 0, 8, 3), 7);
        Due.fine("by a row", x, x.write(2, 0, 0, 0, 0, 8, 9), 0);
        Make.holds("by a row", x, 1, 9);
    }

    private static void place() {
        Due.says("The array of DEPTH 1 in which an element lies, times 1000, and its place. 5, 2, 3.");
        DecisionArrays x = new DecisionArrays();
        x.array(4, 200);
        Due.fine("the first", x, x.place(0, 0, 0, 0, 0), 0);
        Due.fine("the last", x, x.place(0, 199, 0, 0, 0), 199);
        for (int a = 1; a < 59; a++) {
            x.array(4, 0);
        }
        x.rows(0, 1);
        x.setRow(59, 0, 0);
        Due.fine("through a row", x, x.place(59, 0, 199, 0, 0), 199);
        DecisionArrays y = new DecisionArrays();
        y.grid(4, 2, 59, 60, 0, 0);
        Due.fine("in array 59", y, y.place(0, 58, 59, 0, 0), 59059);
    }

    private static void pin() {
        Due.says("An element is PINNED (on), or not any more: 1 if it was, else 0. 5, 2, 3.");
        DecisionArrays x = Make.of(4, 1, 2);
        Due.fine("off, was not", x, x.pin(0, 0, 0, 0, 0, false), 0);
        Due.fine("on, was not", x, x.pin(0, 0, 0, 0, 0, true), 0);
        Due.fine("on, was", x, x.pin(0, 0, 0, 0, 0, true), 1);
        Due.fine("one alone", x, x.about(0, 5), 1);
        Due.fine("off, was", x, x.pin(0, 0, 0, 0, 0, false), 1);
        Due.fine("off again", x, x.pin(0, 0, 0, 0, 0, false), 0);
        Due.fine("the last", x, x.pin(0, 1, 0, 0, 0, true), 0);
        Due.fails("behind the last", x, x.pin(0, 2, 0, 0, 0, true), 2);
        Make.holds("values stay", x, 0, 1, 2);
    }

    private static void column() {
        Due.says("The n-th element (from 0) of all arrays of DEPTH 1 of a KIND, by numbers, then places: its array times "
            + "1000 and its place; NONE is -2. 9.");
        DecisionArrays x = new DecisionArrays();
        Due.fine("no arrays", x, x.column(4, 0), -2);
        x.array(4, 0);
        Due.fine("an empty one", x, x.column(4, 0), -2);
        x.array(5, 1);
        x.array(4, 2);
        x.rows(2, 3);
        x.copy(2, 1);
        Due.fine("the first", x, x.column(4, 0), 2000);
        Due.fine("the second", x, x.column(4, 1), 2001);
        Due.fine("the next array", x, x.column(4, 2), 4000);
        Due.fine("behind the last", x, x.column(4, 3), -2);
        Due.fine("far behind", x, x.column(4, Integer.MAX_VALUE), -2);
        Due.fine("of another kind", x, x.column(5, 0), 1000);
        Due.fine("of none", x, x.column(3, 0), -2);
        for (int a = 5; a < 60; a++) {
            x.array(4, 1);
        }
        Due.fine("in the 60th array", x, x.column(4, 57), 59000);
        Due.fine("behind the 60th", x, x.column(4, 58), -2);
        Due.fails("n -1", x, x.column(4, -1), 9);
        Due.fails("least n", x, x.column(4, Integer.MIN_VALUE), 9);
    }

    private static void code() {
        Due.says("Code of the latest call that has codes, above 0; 0.");
        DecisionArrays x = Make.of(4, 1);
        int[] due = {5, 9, 2, 1, 4, 8};
        for (int code : due) {
            switch (code) {
                case 5: x.hash(9); break;
                case 9: x.count(9); break;
                case 2: x.place(0, 1, 0, 0, 0); break;
                case 1: x.row(0, 0); break;
                case 4: x.copy(0, -1); break;
                default: x.array(4, 201); break;
            }
            Due.is("code " + code, x.code(), code);
            x.score();
            Due.is("code " + code + " stays", x.code(), code);
        }
        x.rows(0, 1);
        x.place(1, 0, 0, 0, 0);
        Due.is("code 3", x.code(), 3);
        x.pin(0, 0, 0, 0, 0, true);
        Due.is("pin has none", x.code(), 0);
        x.write(0, 0, 0, 0, 0, 4, 1);
        Due.is("code 6", x.code(), 6);
        x.things(1, 1);
        x.write(2, 0, 0, 0, 0, 8, 2);
        Due.is("code 7", x.code(), 7);
        x.hash(0);
        Due.is("hash has none", x.code(), 0);
    }

    private static void widens() {
        Due.says("Whether a kind WIDENS to another one: 1, 0. 9.");
        DecisionArrays x = new DecisionArrays();
        Due.fine("char to short", x, x.widens(1, 3), 0);
        Due.fine("byte to char", x, x.widens(2, 1), 0);
        Due.fine("byte to short", x, x.widens(2, 3), 1);
        Due.fine("long to float", x, x.widens(5, 6), 1);
        Due.fine("float to long", x, x.widens(6, 5), 0);
        Due.fine("double to float", x, x.widens(7, 6), 0);
        Due.fine("boolean to boolean", x, x.widens(0, 0), 1);
        Due.fine("boolean to char", x, x.widens(0, 1), 0);
        Due.fine("thing to thing", x, x.widens(8, 8), 1);
        Due.fine("double to thing", x, x.widens(7, 8), 0);
        for (int kind : Make.NO_KINDS) {
            Due.fails("no kind to itself", x, x.widens(kind, kind), 9);
        }
    }
}
