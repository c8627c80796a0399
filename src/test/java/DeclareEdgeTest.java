/** The boundary cases of promises 1 to 4, and of the terms on types, fields and rows, sentence by sentence. */
public final class DeclareEdgeTest {
    private static final int REFUSED = QueryGraph.REFUSED;
    private static final int FULL = QueryGraph.FULL;
    private static final int[] NO_TYPE = {-1, 5, 6, Integer.MIN_VALUE, Integer.MAX_VALUE};

    public static void main(String[] args) {
        theStateThatTheTermsGive();
        typesAsTheyAreDeclared();
        fiveTypes();
        noTypeBesideARow();
        fourFields();
        kindsOfFields();
        targetsOfLinks();
        aTypeOrAny();
        targetsOfNumbers();
        noSuchTypeOrTarget();
        noFieldBesideARow();
        fullTypeOrRow();
        rowNumbers();
        rowOfATypeThatThereIs();
        twelveRows();
        Due.end();
    }

    private static QueryGraph withTypes(int types) {
        QueryGraph x = new QueryGraph();
        for (int i = 0; i < types; i++) {
            x.type();
        }
        return x;
    }

    private static void theStateThatTheTermsGive() {
        Due.sentence("makes an object in the state that the terms give.");
        QueryGraph x = new QueryGraph();
        for (int what = 0; what <= 7; what++) {
            Due.due("count(" + what + ")", x.count(what), 0);
        }
        Due.due("place()", x.place(), REFUSED);
        Due.due("code(0)", x.code(0), REFUSED);
        Due.due("missing(0, 0)", x.missing(0, 0), REFUSED);
        Due.due("check(0)", x.check(0), REFUSED);
        Due.due("ask(1)", x.ask(1), REFUSED);
        Due.due("ask(0)", x.ask(0), REFUSED);
        Due.due("row(0)", x.row(0), REFUSED);
        Due.due("field(0, 0, 0, false)", x.field(0, 0, 0, false), REFUSED);
        Due.due("put(1, 0, 0)", x.put(1, 0, 0), REFUSED);
        Due.due("link(1, 0, 1)", x.link(1, 0, 1), REFUSED);
        Due.due("clear(1, 0)", x.clear(1, 0), REFUSED);
        for (int text = 0; text < 4; text++) {
            Due.due("wipe(" + text + ")", x.wipe(text), 0);
        }
        Due.due("type()", x.type(), 0);
        Due.due("field(0, 0, 0, false)", x.field(0, 0, 0, false), 0);
        Due.due("row(0)", x.row(0), 1);
        Due.due("check(0) of a query without tokens", x.check(0), QueryGraph.WRONG);
        Due.due("place()", x.place(), 0);
    }

    private static void typesAsTheyAreDeclared() {
        Due.sentence("TYPES 0 .. 4, as they are declared.");
        for (int types = 0; types <= 5; types++) {
            QueryGraph x = withTypes(types);
            Due.due("count(0) of " + types, x.count(0), types);
            for (int type = 0; type <= 5; type++) {
                boolean there = type < types;
                Due.write(x, 0, "K0 E");
                Due.due("check(" + type + ") of " + types, x.check(type), there ? 0 : REFUSED);
                Due.due("field(" + type + ") of " + types, x.field(type, 0, 0, false), there ? 0 : REFUSED);
            }
            for (int type : NO_TYPE) {
                Due.due("row(" + type + ") of " + types, x.row(type), REFUSED);
            }
            for (int type = 0; type < types; type++) {
                Due.due("row(" + type + ") of " + types, x.row(type), type + 1);
                Due.dueAnswer(x, type + 1, "2 10 " + (2000 + type) + " 3", "");
            }
        }
    }

    private static void fiveTypes() {
        Due.sentence("There are 5, or there is a row: FULL. Its number.");
        QueryGraph x = new QueryGraph();
        for (int type = 0; type < 5; type++) {
            Due.due("type()", x.type(), type);
        }
        Due.due("sixth type()", x.type(), FULL);
        Due.due("seventh type()", x.type(), FULL);
        Due.due("count(0)", x.count(0), 5);
    }

    private static void noTypeBesideARow() {
        Due.sentence("There are 5, or there is a row: FULL. Its number.");
        for (int types = 1; types <= 5; types++) {
            QueryGraph x = withTypes(types);
            x.row(types - 1);
            Due.due("type() beside a row and " + types, x.type(), FULL);
            Due.due("count(0)", x.count(0), types);
            Due.due("row(" + types + ")", x.row(types), REFUSED);
        }
        QueryGraph y = withTypes(1);
        Due.due("row(1), refused", y.row(1), REFUSED);
        Due.due("type() behind a row that was refused", y.type(), 1);
    }

    private static void fourFields() {
        Due.sentence("A type has at most 4 FIELDS, numbered 0, 1, ..;");
        QueryGraph x = withTypes(5);
        for (int field = 0; field < 4; field++) {
            for (int type = 0; type < 5; type++) {
                Due.due("field of type " + type, x.field(type, QueryGraph.NUMBER, 0, false), field);
            }
        }
        for (int type = 0; type < 5; type++) {
            for (int kind = 0; kind <= 2; kind++) {
                Due.due("fifth field of type " + type, x.field(type, kind, 5, false), FULL);
            }
        }
        for (int type = 0; type < 5; type++) {
            int row = x.row(type);
            for (int field = 0; field < 4; field++) {
                Due.due("put into field " + field, x.put(row, field, 10 * type + field), 0);
            }
            Due.due("put into field 4", x.put(row, 4, 0), REFUSED);
        }
        Due.write(x, 0, "N00 N11 N22 N33 E");
        for (int type = 0; type < 5; type++) {
            int tens = 1000 + 10 * type;
            Due.dueAnswer(x, type + 1,
                "2 10 " + tens + " 11 " + (tens + 1) + " 12 " + (tens + 2) + " 13 " + (tens + 3) + " 3", "");
        }
    }

    private static void kindsOfFields() {
        Due.sentence("Declares a field of a type, kind 0 .. 2,");
        QueryGraph x = withTypes(1);
        for (int kind : new int[] {-1, 3, Integer.MIN_VALUE, Integer.MAX_VALUE}) {
            Due.due("kind " + kind, x.field(0, kind, 0, false), REFUSED);
        }
        Due.sentence("a field is a NUMBER, a LINK or MANY;");
        Due.due("kind 0", x.field(0, 0, 0, false), 0);
        Due.due("kind 1", x.field(0, 1, 0, false), 1);
        Due.due("kind 2", x.field(0, 2, 0, false), 2);
        x.row(0);
        Due.write(x, 0, "N00 O11 E O22 E E");
        Due.dueAnswer(x, 1, "2 10 1 11 1 12 4 5 3", "");
        Due.sentence("each field may be required.");
        QueryGraph y = withTypes(1);
        y.field(0, 0, 0, true);
        y.field(0, 1, 0, true);
        y.field(0, 0, 0, false);
        y.field(0, 1, 0, false);
        y.row(0);
        for (int field = 0; field < 4; field++) {
            Due.write(y, 0, field % 2 == 0 ? "N0" + field + " E" : "O0" + field + " E E");
            Due.dueAnswer(y, 1, field < 2 ? "1" : "2 10 1 3", field < 2 ? "0" : "");
        }
    }

    private static void targetsOfLinks() {
        Due.sentence("target 0 .. 5 (a type that is declared already, or 5; for NUMBER any of 0 .. 5)");
        for (int kind = QueryGraph.LINK; kind <= QueryGraph.MANY; kind++) {
            for (int types = 1; types <= 5; types++) {
                for (int target = 0; target <= 5; target++) {
                    QueryGraph x = withTypes(types);
                    boolean there = target < types || target == 5;
                    Due.due("kind " + kind + ", target " + target + " of " + types,
                        x.field(types - 1, kind, target, false), there ? 0 : REFUSED);
                }
            }
        }
        QueryGraph y = withTypes(1);
        Due.due("a target that comes later", y.field(0, QueryGraph.LINK, 1, false), REFUSED);
        y.type();
        Due.due("the same when it is declared", y.field(0, QueryGraph.LINK, 1, false), 0);
    }

    private static void aTypeOrAny() {
        Due.sentence("the last two have a target: a type, or 5 for any type;");
        for (int target = 0; target <= 5; target++) {
            QueryGraph x = withTypes(5);
            x.field(0, QueryGraph.LINK, target, false);
            x.field(0, QueryGraph.MANY, target, false);
            for (int type = 0; type < 5; type++) {
                x.row(type);
            }
            int linked = 0;
            for (int type = 0; type < 5; type++) {
                boolean fits = target == type || target == 5;
                linked += fits ? 1 : 0;
                boolean room = linked <= 4;
                Due.due("LINK to " + target + " of " + type, x.link(1, 0, type + 1), fits ? 1 : REFUSED);
                Due.due("MANY of " + target + " of " + type, x.link(1, 1, type + 1), fits ? (room ? linked : FULL) : REFUSED);
            }
        }
    }

    private static void targetsOfNumbers() {
        Due.sentence("target 0 .. 5 (a type that is declared already, or 5; for NUMBER any of 0 .. 5)");
        for (int target = 0; target <= 5; target++) {
            Due.due("NUMBER with target " + target, withTypes(1).field(0, QueryGraph.NUMBER, target, true), 0);
        }
    }

    private static void noSuchTypeOrTarget() {
        Due.sentence("There is no such type or target: REFUSED.");
        QueryGraph x = withTypes(4);
        for (int type : new int[] {-1, 4, 5, Integer.MIN_VALUE, Integer.MAX_VALUE}) {
            for (int kind = 0; kind <= 2; kind++) {
                Due.due("type " + type + ", kind " + kind, x.field(type, kind, 0, false), REFUSED);
            }
        }
        for (int target : new int[] {-1, 6, Integer.MIN_VALUE, Integer.MAX_VALUE}) {
            for (int kind = 0; kind <= 2; kind++) {
                Due.due("kind " + kind + ", target " + target, x.field(0, kind, target, false), REFUSED);
            }
        }
        Due.due("LINK to type 4, which is not there", x.field(0, QueryGraph.LINK, 4, false), REFUSED);
        Due.due("MANY of type 4, which is not there", x.field(0, QueryGraph.MANY, 4, false), REFUSED);
        for (int type = 0; type < 4; type++) {
            Due.due("the first field of " + type, x.field(type, QueryGraph.NUMBER, 0, false), 0);
        }
    }

    private static void noFieldBesideARow() {
        Due.sentence("Fields can be declared only as long as there is no row.");
        QueryGraph x = withTypes(2);
        Due.due("row(2), refused", x.row(2), REFUSED);
        Due.due("field behind a row that was refused", x.field(0, 0, 0, false), 0);
        x.row(0);
        for (int kind = 0; kind <= 2; kind++) {
            Due.due("field of the row's type", x.field(0, kind, 0, false), FULL);
            Due.due("field of the other type", x.field(1, kind, 0, false), FULL);
        }
        Due.due("put into what was not declared", x.put(1, 1, 0), REFUSED);
        x.row(1);
        Due.due("clear what was not declared", x.clear(2, 0), REFUSED);
    }

    private static void fullTypeOrRow() {
        Due.sentence("There is a row, or the type has 4: FULL. Its number in the type.");
        QueryGraph x = withTypes(2);
        for (int field = 0; field < 4; field++) {
            Due.due("field of type 1", x.field(1, QueryGraph.MANY, 5, false), field);
        }
        Due.due("the fifth", x.field(1, QueryGraph.MANY, 5, false), FULL);
        Due.due("field of type 0, which has none", x.field(0, QueryGraph.LINK, 1, false), 0);
        Due.due("LINK to no type, the type has 4", x.field(1, QueryGraph.LINK, 2, false), REFUSED);
        x.row(0);
        Due.due("field beside a row", x.field(0, QueryGraph.LINK, 1, false), FULL);
        Due.due("LINK to no type beside a row", x.field(0, QueryGraph.LINK, 2, false), REFUSED);
        Due.due("field of no type beside a row", x.field(2, QueryGraph.LINK, 1, false), REFUSED);
    }

    private static void rowNumbers() {
        Due.sentence("ROWS are numbered 1, 2, .. as they are made, at most 12;");
        QueryGraph x = withTypes(1);
        Due.write(x, 0, "K0 E");
        for (int made = 1; made <= 12; made++) {
            Due.due("ask(" + made + ") before it is made", x.ask(made), REFUSED);
            Due.due("row(0)", x.row(0), made);
            Due.due("ask(" + made + ")", x.ask(made), 4);
        }
        for (int row : new int[] {0, 13, -1, Integer.MIN_VALUE, Integer.MAX_VALUE}) {
            Due.due("ask(" + row + ")", x.ask(row), REFUSED);
        }
    }

    private static void rowOfATypeThatThereIs() {
        Due.sentence("Makes a row of a type that there is.");
        for (int types = 0; types < 5; types++) {
            QueryGraph x = withTypes(types);
            Due.due("row(" + types + ") of " + types, x.row(types), REFUSED);
            Due.due("row(-1) of " + types, x.row(-1), REFUSED);
            Due.due("row(5) of " + types, x.row(5), REFUSED);
            Due.due("count(1)", x.count(1), 0);
            Due.due("row(" + (types - 1) + ") of " + types, x.row(types - 1), types == 0 ? REFUSED : 1);
        }
    }

    private static void twelveRows() {
        Due.sentence("There are 12: FULL. Its number.");
        QueryGraph x = withTypes(5);
        for (int made = 1; made <= 12; made++) {
            Due.due("row", x.row(made % 5), made);
        }
        for (int type = 0; type < 5; type++) {
            Due.due("13th row, of type " + type, x.row(type), FULL);
        }
        Due.due("count(1)", x.count(1), 12);
        Due.write(x, 0, "K0 E");
        for (int row = 1; row <= 12; row++) {
            Due.dueAnswer(x, row, "2 10 " + (2000 + row % 5) + " 3", "");
        }
    }
}
