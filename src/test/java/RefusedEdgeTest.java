import java.util.function.Supplier;
import java.util.function.ToIntFunction;

/** What holds of every call: REFUSED or FULL changes nothing, and numbers out of range are tested first. */
public final class RefusedEdgeTest {
    private static final int REFUSED = QueryGraph.REFUSED;
    private static final int FULL = QueryGraph.FULL;
    private static final int LEAST = Integer.MIN_VALUE;
    private static final int MOST = Integer.MAX_VALUE;

    public static void main(String[] args) {
        Due.sentence("A call that is REFUSED or FULL changes nothing.");
        refusedChangesNothing(RefusedEdgeTest::answered);
        refusedChangesNothing(RefusedEdgeTest::foundWrong);
        refusedInANewObject();
        fullChangesNothing();
        Due.sentence("Numbers out of range are tested first: REFUSED.");
        refusedBeforeFull();
        refusedBeforeWrong();
        Due.end();
    }

    /**
     * Full as far as can be: type 0 with four fields and type 1 with two, 12 rows of which rows 11 and 12 are of type 1,
     * texts of 16 tokens, a MANY of four, and an answer with places.
     */
    private static QueryGraph answered() {
        QueryGraph x = new QueryGraph();
        x.type();
        x.type();
        x.field(0, QueryGraph.NUMBER, 0, true);
        x.field(0, QueryGraph.LINK, 0, false);
        x.field(0, QueryGraph.MANY, 0, false);
        x.field(0, QueryGraph.LINK, 5, false);
        x.field(1, QueryGraph.NUMBER, 0, false);
        x.field(1, QueryGraph.MANY, 5, true);
        for (int row = 1; row <= 12; row++) {
            x.row(row <= 10 ? 0 : 1);
        }
        x.put(1, 0, 500);
        x.put(12, 0, 0);
        x.link(1, 1, 2);
        for (int i = 1; i <= 4; i++) {
            x.link(1, 2, i);
            x.link(12, 1, 13 - i);
        }
        x.link(1, 3, 12);
        x.set(0, 1);
        x.set(2, 1);
        Due.write(x, 0, "K0 N10 O21 N00 E O32 N00 E I01 K9 E U1 K7 K7 K7 E");
        Due.write(x, 1, "K8 K8 K8 K8 K8 K8 K8 K8 K8 K8 K8 K8 K8 K8 K8 E");
        Due.write(x, 2, "N01 E");
        Due.due("ask(1)", x.ask(1), 24);
        return x;
    }

    private static QueryGraph foundWrong() {
        QueryGraph x = answered();
        Due.due("check(1)", x.check(1), QueryGraph.WRONG);
        Due.due("place()", x.place(), 3);
        return x;
    }

    /** The call answers so, and the object is then like one on which it was not called. */
    private static void dueUnchanged(Supplier<QueryGraph> made, String name, int answer, ToIntFunction<QueryGraph> call) {
        QueryGraph x = made.get();
        String before = Portrait.outside(x);
        Due.due(name, call.applyAsInt(x), answer);
        Due.due("the outside behind " + name, Portrait.outside(x), before);
        Due.due("all behind " + name, Portrait.whole(x), Portrait.whole(made.get()));
    }

    private static void refusedChangesNothing(Supplier<QueryGraph> made) {
        for (int n : new int[] {LEAST, -1, 13, MOST}) {
            dueUnchanged(made, "field of type " + n, REFUSED, x -> x.field(n, 0, 0, true));
            dueUnchanged(made, "field of kind " + n, REFUSED, x -> x.field(0, n, 0, true));
            dueUnchanged(made, "field with target " + n, REFUSED, x -> x.field(0, 1, n, true));
            dueUnchanged(made, "row of type " + n, REFUSED, x -> x.row(n));
            dueUnchanged(made, "put into row " + n, REFUSED, x -> x.put(n, 0, 7));
            dueUnchanged(made, "put into field " + n, REFUSED, x -> x.put(1, n, 7));
            dueUnchanged(made, "link from row " + n, REFUSED, x -> x.link(n, 1, 1));
            dueUnchanged(made, "link in field " + n, REFUSED, x -> x.link(1, n, 1));
            dueUnchanged(made, "link to row " + n, REFUSED, x -> x.link(1, 1, n));
            dueUnchanged(made, "link to row " + n + " by any", REFUSED, x -> x.link(1, 3, n));
            dueUnchanged(made, "clear in row " + n, REFUSED, x -> x.clear(n, 0));
            dueUnchanged(made, "clear field " + n, REFUSED, x -> x.clear(1, n));
            dueUnchanged(made, "set switch " + n, REFUSED, x -> x.set(n, 1));
            dueUnchanged(made, "set to " + n, REFUSED, x -> x.set(0, n));
            dueUnchanged(made, "token of text " + n, REFUSED, x -> x.token(n, 2, 0, 0));
            dueUnchanged(made, "token of op " + n, REFUSED, x -> x.token(2, n, 0, 0));
            dueUnchanged(made, "token with name " + n, REFUSED, x -> x.token(2, 2, n, 0));
            dueUnchanged(made, "token with field " + n, REFUSED, x -> x.token(2, 0, 0, n));
            dueUnchanged(made, "wipe " + n, REFUSED, x -> x.wipe(n));
            dueUnchanged(made, "check of type " + n, REFUSED, x -> x.check(n));
            dueUnchanged(made, "ask of row " + n, REFUSED, x -> x.ask(n));
            dueUnchanged(made, "missing of place " + n, REFUSED, x -> x.missing(n, 0));
            dueUnchanged(made, "missing of part " + n, REFUSED, x -> x.missing(0, n));
            dueUnchanged(made, "count of " + n, REFUSED, x -> x.count(n));
        }
        refusedByWhatIsThere(made);
    }

    /** Numbers that are in range by themselves, but not for this row, field or type. */
    private static void refusedByWhatIsThere(Supplier<QueryGraph> made) {
        dueUnchanged(made, "put 1000", REFUSED, x -> x.put(1, 0, 1000));
        dueUnchanged(made, "put -1", REFUSED, x -> x.put(1, 0, -1));
        dueUnchanged(made, "put into a LINK", REFUSED, x -> x.put(1, 1, 7));
        dueUnchanged(made, "put into a MANY", REFUSED, x -> x.put(1, 2, 7));
        dueUnchanged(made, "put into no field", REFUSED, x -> x.put(12, 2, 7));
        dueUnchanged(made, "link in a NUMBER", REFUSED, x -> x.link(1, 0, 2));
        dueUnchanged(made, "link to row 0", REFUSED, x -> x.link(1, 1, 0));
        dueUnchanged(made, "LINK to the wrong type", REFUSED, x -> x.link(1, 1, 12));
        dueUnchanged(made, "MANY of the wrong type", REFUSED, x -> x.link(2, 2, 12));
        dueUnchanged(made, "link in no field", REFUSED, x -> x.link(12, 2, 12));
        dueUnchanged(made, "clear no field", REFUSED, x -> x.clear(12, 2));
        dueUnchanged(made, "clear in row 0", REFUSED, x -> x.clear(0, 0));
        dueUnchanged(made, "set switch 4", REFUSED, x -> x.set(4, 1));
        dueUnchanged(made, "set to 2", REFUSED, x -> x.set(1, 2));
        dueUnchanged(made, "check of type 2", REFUSED, x -> x.check(2));
        dueUnchanged(made, "ask of row 0", REFUSED, x -> x.ask(0));
        dueUnchanged(made, "row of type 2", REFUSED, x -> x.row(2));
        dueUnchanged(made, "field to type 2", REFUSED, x -> x.field(0, 1, 2, true));
        dueUnchanged(made, "wipe 4", REFUSED, x -> x.wipe(4));
    }

    private static void refusedInANewObject() {
        dueUnchanged(QueryGraph::new, "field", REFUSED, x -> x.field(0, 0, 0, true));
        dueUnchanged(QueryGraph::new, "row", REFUSED, x -> x.row(0));
        dueUnchanged(QueryGraph::new, "put", REFUSED, x -> x.put(1, 0, 0));
        dueUnchanged(QueryGraph::new, "link", REFUSED, x -> x.link(1, 0, 1));
        dueUnchanged(QueryGraph::new, "clear", REFUSED, x -> x.clear(1, 0));
        dueUnchanged(QueryGraph::new, "check", REFUSED, x -> x.check(0));
        dueUnchanged(QueryGraph::new, "place", REFUSED, x -> x.place());
        dueUnchanged(QueryGraph::new, "ask", REFUSED, x -> x.ask(1));
        dueUnchanged(QueryGraph::new, "code", REFUSED, x -> x.code(0));
        dueUnchanged(QueryGraph::new, "missing", REFUSED, x -> x.missing(0, 0));
    }

    private static void fullChangesNothing() {
        dueUnchanged(RefusedEdgeTest::answered, "type() beside a row", FULL, x -> x.type());
        dueUnchanged(RefusedEdgeTest::answered, "fifth field", FULL, x -> x.field(0, 0, 0, true));
        dueUnchanged(RefusedEdgeTest::answered, "field beside a row", FULL, x -> x.field(1, 1, 0, true));
        dueUnchanged(RefusedEdgeTest::answered, "13th row", FULL, x -> x.row(1));
        dueUnchanged(RefusedEdgeTest::answered, "fifth row of a MANY", FULL, x -> x.link(1, 2, 10));
        dueUnchanged(RefusedEdgeTest::answered, "fifth row of a MANY of any", FULL, x -> x.link(12, 1, 1));
        dueUnchanged(RefusedEdgeTest::answered, "17th token of the query", FULL, x -> x.token(0, 6, 0, 0));
        dueUnchanged(RefusedEdgeTest::answered, "17th token of a fragment", FULL, x -> x.token(1, 0, 0, 0));
        dueUnchanged(RefusedEdgeTest::foundWrong, "17th token of the query", FULL, x -> x.token(0, 0, 0, 0));
        dueUnchanged(RefusedEdgeTest::foundWrong, "13th row", FULL, x -> x.row(0));
        dueUnchanged(RefusedEdgeTest::declared, "sixth type", FULL, x -> x.type());
        dueUnchanged(RefusedEdgeTest::declared, "fifth field", FULL, x -> x.field(4, 2, 0, true));
    }

    /** Five types, the last of them with four fields, and no row. */
    private static QueryGraph declared() {
        QueryGraph x = new QueryGraph();
        for (int type = 0; type < 5; type++) {
            x.type();
        }
        for (int field = 0; field < 4; field++) {
            x.field(4, QueryGraph.NUMBER, 0, false);
        }
        Due.write(x, 0, "N00 N11 N22 N33 E");
        return x;
    }

    private static void refusedBeforeFull() {
        QueryGraph x = answered();
        for (int n : new int[] {LEAST, -1, 2, 4, 5, 6, MOST}) {
            Due.due("field of type " + n + " beside a row", x.field(n, 0, 0, true), REFUSED);
            Due.due("13th row, of type " + n, x.row(n), REFUSED);
            Due.due("LINK to " + n + " beside a row", x.field(0, 1, n, true), n == 5 ? FULL : REFUSED);
        }
        for (int n : new int[] {LEAST, -1, 3, MOST}) {
            Due.due("field of kind " + n + " beside a row", x.field(0, n, 0, true), REFUSED);
        }
        for (int n : new int[] {LEAST, -1, 0, 13, MOST}) {
            Due.due("fifth of a MANY, row " + n, x.link(1, 2, n), REFUSED);
            Due.due("fifth of a MANY of any, row " + n, x.link(12, 1, n), REFUSED);
        }
        Due.due("fifth of a MANY, of the wrong type", x.link(1, 2, 12), REFUSED);
        for (int n : new int[] {LEAST, -1, 10, MOST}) {
            Due.due("17th token, of op " + n, x.token(0, n, 0, 0), REFUSED);
            for (int op = 0; op <= 5; op++) {
                Due.due("17th token, of op " + op + " with a " + n, x.token(0, op, n, 0), REFUSED);
            }
            Due.due("17th token, NUMBER with b " + n, x.token(1, 0, 0, n), REFUSED);
            Due.due("17th token, OBJECT with b " + n, x.token(1, 1, 0, n), REFUSED);
            Due.due("17th token, IF with b " + n, x.token(1, 4, 0, n), REFUSED);
        }
        Due.due("17th token, USE of the query", x.token(0, 5, 0, 0), REFUSED);
        QueryGraph y = declared();
        Due.due("fifth field of kind 3", y.field(4, 3, 0, false), REFUSED);
        Due.due("fifth field with target 6", y.field(4, 0, 6, false), REFUSED);
    }

    private static void refusedBeforeWrong() {
        QueryGraph x = answered();
        x.wipe(0);
        for (int n : new int[] {LEAST, -1, 13, MOST}) {
            Due.due("check of type " + n, x.check(n), REFUSED);
            Due.due("ask of row " + n, x.ask(n), REFUSED);
        }
        Due.due("check of type 2", x.check(2), REFUSED);
        Due.due("check of type 1", x.check(1), QueryGraph.WRONG);
        Due.due("ask of row 0", x.ask(0), REFUSED);
        Due.due("ask of row 12", x.ask(12), QueryGraph.WRONG);
    }
}
