/** Promises 1 to 4: a new object, type, field, row. */
public final class DeclareTest {
    private static final int REFUSED = QueryGraph.REFUSED;
    private static final int FULL = QueryGraph.FULL;

    public static void main(String[] args) {
        aNewObject();
        objectsAreApart();
        types();
        fieldsInOrder();
        fieldsRefused();
        fieldsFull();
        rows();
        rowsStartEmpty();
        Due.end();
    }

    private static void aNewObject() {
        QueryGraph x = new QueryGraph();
        for (int what = 0; what <= 7; what++) {
            Due.due("new: count(" + what + ")", x.count(what), 0);
        }
        Due.due("new: place()", x.place(), REFUSED);
        Due.due("new: code(0)", x.code(0), REFUSED);
        Due.due("new: missing(0, 0)", x.missing(0, 0), REFUSED);
        Due.due("new: row(0)", x.row(0), REFUSED);
        Due.due("new: ask(1)", x.ask(1), REFUSED);
        Due.due("new: check(0)", x.check(0), REFUSED);
    }

    private static void objectsAreApart() {
        QueryGraph x = new QueryGraph();
        QueryGraph y = new QueryGraph();
        x.type();
        x.row(0);
        Due.write(x, 0, "K0 E");
        x.ask(1);
        for (int what = 0; what <= 7; what++) {
            Due.due("another object: count(" + what + ")", y.count(what), 0);
        }
    }

    private static void types() {
        QueryGraph x = new QueryGraph();
        for (int i = 0; i < 5; i++) {
            Due.due("type()", x.type(), i);
            Due.due("count(0)", x.count(0), i + 1);
        }
        Due.due("sixth type()", x.type(), FULL);
        Due.due("count(0)", x.count(0), 5);

        QueryGraph y = new QueryGraph();
        y.type();
        y.row(0);
        Due.due("type() with a row", y.type(), FULL);
        Due.due("count(0)", y.count(0), 1);
        Due.due("row(1) of a type that was not made", y.row(1), REFUSED);
    }

    private static void fieldsInOrder() {
        QueryGraph x = new QueryGraph();
        x.type();
        x.type();
        Due.due("field", x.field(0, 0, 0, false), 0);
        Due.due("field", x.field(1, 1, 0, true), 0);
        Due.due("field", x.field(0, 2, 1, true), 1);
        Due.due("field to itself", x.field(0, 1, 0, true), 2);
        Due.due("field to any", x.field(1, 2, 5, true), 1);
        Due.due("field to a later type", x.field(0, 2, 1, false), 3);
    }

    private static void fieldsRefused() {
        QueryGraph x = new QueryGraph();
        Due.due("field without types", x.field(0, 0, 0, false), REFUSED);
        x.type();
        int[][] wrong = {
            {-1, 0, 0}, {1, 0, 0}, {5, 0, 0}, {0, -1, 0}, {0, 3, 0}, {0, 0, -1}, {0, 0, 6},
            {0, 1, -1}, {0, 1, 1}, {0, 1, 4}, {0, 1, 6}, {0, 2, 1}, {0, 2, 6},
            {Integer.MAX_VALUE, 0, 0}, {0, Integer.MIN_VALUE, 0}, {0, 2, Integer.MIN_VALUE},
        };
        for (int[] f : wrong) {
            Due.due("field(" + f[0] + ", " + f[1] + ", " + f[2] + ")", x.field(f[0], f[1], f[2], true), REFUSED);
        }
        Due.due("a NUMBER's target may be no type", x.field(0, 0, 4, false), 0);
        Due.due("a NUMBER's target may be 5", x.field(0, 0, 5, false), 1);
        x.row(0);
        Due.due("no such target, and a row", x.field(0, 1, 1, false), REFUSED);
        Due.due("no such type, and a row", x.field(1, 0, 0, false), REFUSED);
    }

    private static void fieldsFull() {
        QueryGraph x = new QueryGraph();
        x.type();
        x.type();
        for (int i = 0; i < 4; i++) {
            Due.due("field", x.field(0, 0, 0, false), i);
        }
        Due.due("fifth field", x.field(0, 0, 0, false), FULL);
        Due.due("fifth field with no kind", x.field(0, 3, 0, false), REFUSED);
        Due.due("first field of the other", x.field(1, 0, 0, false), 0);
        x.row(0);
        Due.due("field with a row", x.field(1, 0, 0, false), FULL);
        Due.due("row", x.row(1), 2);
        Due.due("the field was not made", x.put(2, 1, 0), REFUSED);
    }

    private static void rows() {
        QueryGraph x = new QueryGraph();
        x.type();
        x.type();
        Due.due("row(2)", x.row(2), REFUSED);
        Due.due("row(-1)", x.row(-1), REFUSED);
        for (int i = 1; i <= 12; i++) {
            Due.due("row", x.row(i % 2), i);
            Due.due("count(1)", x.count(1), i);
        }
        Due.due("13th row", x.row(0), FULL);
        Due.due("13th row of no type", x.row(2), REFUSED);
        Due.due("count(1)", x.count(1), 12);
        Due.write(x, 0, "K0 E");
        Due.dueAnswer(x, 12, "2 10 2000 3", "");
        Due.dueAnswer(x, 11, "2 10 2001 3", "");
        Due.due("ask(13)", x.ask(13), REFUSED);
    }

    private static void rowsStartEmpty() {
        QueryGraph x = new QueryGraph();
        x.type();
        x.field(0, 0, 0, false);
        x.field(0, 1, 0, false);
        x.field(0, 2, 0, false);
        x.row(0);
        Due.write(x, 0, "N00 O11 E O22 E E");
        Due.dueAnswer(x, 1, "2 10 1 11 1 12 4 5 3", "");
    }
}
