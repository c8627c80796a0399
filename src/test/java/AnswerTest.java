/** Promises 14 to 16: code, missing, count. */
public final class AnswerTest {
    private static final int REFUSED = QueryGraph.REFUSED;
    private static final int[] WILD = {Integer.MIN_VALUE, -17, -1, 64, 120, 1560, Integer.MAX_VALUE};

    public static void main(String[] args) {
        codes();
        missing();
        theLastAskCounts();
        counts();
        Due.end();
    }

    /**
     * Type 0: NUMBER that is required, LINK to 0, MANY of 0. Row 1 links to 2 and has 2, 1 and 3 as MANY; 2 and 3 have
     * no number.
     */
    private static QueryGraph linked() {
        QueryGraph x = new QueryGraph();
        x.type();
        x.field(0, QueryGraph.NUMBER, 0, true);
        x.field(0, QueryGraph.LINK, 0, false);
        x.field(0, QueryGraph.MANY, 0, false);
        x.row(0);
        x.row(0);
        x.row(0);
        x.put(1, 0, 999);
        x.link(1, 1, 2);
        x.link(1, 2, 2);
        x.link(1, 2, 1);
        x.link(1, 2, 3);
        return x;
    }

    private static void codes() {
        QueryGraph x = linked();
        Due.due("code(0) before the first ask", x.code(0), REFUSED);
        Due.write(x, 0, "K9 N00 E");
        Due.due("ask(1)", x.ask(1), 6);
        int[] want = {2, 19, 2000, 10, 1999, 3};
        for (int i = 0; i < want.length; i++) {
            Due.due("code(" + i + ")", x.code(i), want[i]);
        }
        Due.due("code(6)", x.code(6), REFUSED);
        for (int i : WILD) {
            Due.due("code(" + i + ")", x.code(i), REFUSED);
        }
    }

    private static void missing() {
        QueryGraph x = linked();
        Due.write(x, 0, "O32 N10 E O41 N50 N60 E E");
        Due.due("ask(1)", x.ask(1), 13);
        Due.due("codes", Due.codes(x), "2 13 4 1 2 11 1999 3 1 5 14 1 3");
        Due.due("places", Due.places(x), "3.10.1 3.12.1 4.5 4.6");
        Due.due("count(3)", x.count(3), 4);
        int[][] wrong = {{0, 3}, {0, -1}, {1, 3}, {2, 2}, {3, 2}, {4, 0}, {-1, 0}};
        for (int[] p : wrong) {
            Due.due("missing(" + p[0] + ", " + p[1] + ")", x.missing(p[0], p[1]), REFUSED);
        }
        for (int n : WILD) {
            Due.due("missing(" + n + ", 0)", x.missing(n, 0), REFUSED);
            Due.due("missing(0, " + n + ")", x.missing(0, n), REFUSED);
            Due.due("missing(" + n + ", " + n + ")", x.missing(n, n), REFUSED);
        }
    }

    private static void theLastAskCounts() {
        QueryGraph x = linked();
        Due.write(x, 0, "O32 N10 E O41 N50 N60 E E");
        Due.dueAnswer(x, 1, "2 13 4 1 2 11 1999 3 1 5 14 1 3", "3.10.1 3.12.1 4.5 4.6");
        x.put(2, 0, 7);
        x.clear(1, 2);
        x.set(0, 1);
        x.wipe(0);
        Due.due("codes stay", Due.codes(x), "2 13 4 1 2 11 1999 3 1 5 14 1 3");
        Due.due("places stay", Due.places(x), "3.10.1 3.12.1 4.5 4.6");
        Due.write(x, 0, "O32 N10 E O41 N50 N60 E E");
        Due.dueAnswer(x, 1, "2 13 4 5 14 2 15 1007 16 1007 3 3", "");
        Due.dueAnswer(x, 3, "2 13 4 5 14 1 3", "");
        Due.write(x, 0, "N40 E");
        Due.dueAnswer(x, 3, "1", "4");
        Due.write(x, 0, "N40");
        Due.dueNoAnswer(x, 3, QueryGraph.WRONG);
    }

    private static void counts() {
        QueryGraph x = linked();
        x.row(0);
        Due.write(x, 0, "N10 E");
        Due.write(x, 1, "K1 K2 E");
        Due.write(x, 2, "K1 K2 K3 E");
        Due.write(x, 3, "K1 K2 K3 K4 E");
        Due.due("ask(3)", x.ask(3), 1);
        int[] want = {1, 4, 1, 1, 2, 3, 4, 5};
        for (int what = 0; what < want.length; what++) {
            Due.due("count(" + what + ")", x.count(what), want[what]);
        }
        Due.due("count(8)", x.count(8), REFUSED);
        for (int what : WILD) {
            Due.due("count(" + what + ")", x.count(what), REFUSED);
        }
    }
}
