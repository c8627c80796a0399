/** Promises 5 to 8: put, link, clear, set. */
public final class FillTest {
    private static final int REFUSED = QueryGraph.REFUSED;

    public static void main(String[] args) {
        put();
        linkOne();
        linkMany();
        linkTargets();
        linkRefused();
        clear();
        switches();
        Due.end();
    }

    /**
     * Fields of type 0: NUMBER, LINK to 1, MANY of 1, LINK to any; of type 1: NUMBER, MANY of any. Rows 1 and 2 are of
     * type 0, 3 and 4 of type 1.
     */
    private static QueryGraph filled() {
        QueryGraph x = new QueryGraph();
        x.type();
        x.type();
        x.field(0, QueryGraph.NUMBER, 0, false);
        x.field(0, QueryGraph.LINK, 1, false);
        x.field(0, QueryGraph.MANY, 1, false);
        x.field(0, QueryGraph.LINK, 5, false);
        x.field(1, QueryGraph.NUMBER, 0, false);
        x.field(1, QueryGraph.MANY, 5, false);
        x.row(0);
        x.row(0);
        x.row(1);
        x.row(1);
        for (int row = 1; row <= 4; row++) {
            x.put(row, 0, row);
        }
        return x;
    }

    private static void put() {
        QueryGraph x = filled();
        Due.write(x, 0, "N00 E");
        Due.due("put 0", x.put(1, 0, 0), 0);
        Due.dueAnswer(x, 1, "2 10 1000 3", "");
        Due.due("put 999", x.put(1, 0, 999), 0);
        Due.dueAnswer(x, 1, "2 10 1999 3", "");
        Due.dueAnswer(x, 2, "2 10 1002 3", "");
        int[][] wrong = {
            {0, 0, 1}, {5, 0, 1}, {-1, 0, 1}, {1, -1, 1}, {1, 4, 1}, {3, 2, 1}, {1, 0, -1}, {1, 0, 1000},
            {1, 1, 1}, {1, 2, 1}, {1, 3, 1}, {3, 1, 1}, {Integer.MAX_VALUE, 0, 1}, {1, Integer.MAX_VALUE, 1},
            {1, 0, Integer.MIN_VALUE},
        };
        for (int[] p : wrong) {
            Due.due("put(" + p[0] + ", " + p[1] + ", " + p[2] + ")", x.put(p[0], p[1], p[2]), REFUSED);
        }
        Due.dueAnswer(x, 1, "2 10 1999 3", "");
    }

    private static void linkOne() {
        QueryGraph x = filled();
        Due.write(x, 0, "O01 N10 E E");
        Due.due("link", x.link(1, 1, 3), 1);
        Due.dueAnswer(x, 1, "2 10 2 11 1003 3 3", "");
        Due.due("link in place of it", x.link(1, 1, 4), 1);
        Due.dueAnswer(x, 1, "2 10 2 11 1004 3 3", "");
        for (int i = 0; i < 5; i++) {
            Due.due("a LINK is never full", x.link(1, 1, 3), 1);
        }
        Due.dueAnswer(x, 1, "2 10 2 11 1003 3 3", "");
        Due.dueAnswer(x, 2, "2 10 1 3", "");
    }

    private static void linkMany() {
        QueryGraph x = filled();
        Due.write(x, 0, "O02 N10 E E");
        Due.due("link", x.link(1, 2, 4), 1);
        Due.due("link", x.link(1, 2, 3), 2);
        Due.due("link the same again", x.link(1, 2, 4), 3);
        Due.due("link", x.link(1, 2, 3), 4);
        Due.due("fifth link", x.link(1, 2, 3), QueryGraph.FULL);
        Due.due("fifth link of a wrong type", x.link(1, 2, 1), REFUSED);
        Due.dueAnswer(x, 1, "2 10 4 2 11 1004 3 2 11 1003 3 2 11 1004 3 2 11 1003 3 5 3", "");
        Due.due("the other row's field", x.link(2, 2, 3), 1);
    }

    private static void linkTargets() {
        QueryGraph x = filled();
        Due.due("LINK to 1 of a 0", x.link(1, 1, 2), REFUSED);
        Due.due("MANY of 1 of a 0", x.link(1, 2, 2), REFUSED);
        Due.due("LINK to any of a 0", x.link(1, 3, 2), 1);
        Due.due("LINK to any of a 1", x.link(1, 3, 3), 1);
        Due.due("LINK to any of itself", x.link(1, 3, 1), 1);
        Due.due("MANY of any of a 0", x.link(3, 1, 1), 1);
        Due.due("MANY of any of a 1", x.link(3, 1, 4), 2);
        Due.due("MANY of any of itself", x.link(3, 1, 3), 3);
        Due.write(x, 0, "O02 E O11 E E");
        Due.dueAnswer(x, 1, "2 10 4 5 11 1 3", "");
    }

    private static void linkRefused() {
        QueryGraph x = filled();
        int[][] wrong = {
            {0, 1, 3}, {5, 1, 3}, {1, -1, 3}, {1, 4, 3}, {3, 2, 1}, {1, 0, 3}, {1, 1, 0}, {1, 1, 5}, {1, 1, -1},
            {1, 3, 5}, {Integer.MIN_VALUE, 1, 3}, {1, Integer.MAX_VALUE, 3}, {1, 3, Integer.MAX_VALUE},
        };
        for (int[] p : wrong) {
            Due.due("link(" + p[0] + ", " + p[1] + ", " + p[2] + ")", x.link(p[0], p[1], p[2]), REFUSED);
        }
    }

    private static void clear() {
        QueryGraph x = filled();
        x.link(1, 1, 3);
        x.link(1, 2, 3);
        x.link(1, 2, 4);
        Due.write(x, 0, "N00 O11 K0 E O22 K0 E E");
        Due.dueAnswer(x, 1, "2 10 1001 11 2 10 2001 3 12 4 2 10 2001 3 2 10 2001 3 5 3", "");
        Due.due("clear a NUMBER", x.clear(1, 0), 0);
        Due.dueAnswer(x, 1, "2 10 1 11 2 10 2001 3 12 4 2 10 2001 3 2 10 2001 3 5 3", "");
        Due.due("clear a LINK", x.clear(1, 1), 0);
        Due.dueAnswer(x, 1, "2 10 1 11 1 12 4 2 10 2001 3 2 10 2001 3 5 3", "");
        Due.due("clear a MANY", x.clear(1, 2), 0);
        Due.dueAnswer(x, 1, "2 10 1 11 1 12 4 5 3", "");
        Due.due("clear what is clear", x.clear(1, 2), 0);
        Due.due("link anew", x.link(1, 2, 4), 1);
        Due.due("put anew", x.put(1, 0, 8), 0);
        Due.dueAnswer(x, 1, "2 10 1008 11 1 12 4 2 10 2001 3 5 3", "");
        Due.dueAnswer(x, 2, "2 10 1002 11 1 12 4 5 3", "");
        int[][] wrong = {{0, 0}, {5, 0}, {1, -1}, {1, 4}, {3, 2}, {-1, 0}, {Integer.MAX_VALUE, 0}, {1, Integer.MIN_VALUE}};
        for (int[] p : wrong) {
            Due.due("clear(" + p[0] + ", " + p[1] + ")", x.clear(p[0], p[1]), REFUSED);
        }
    }

    private static void switches() {
        QueryGraph x = filled();
        Due.write(x, 0, "I00 K0 E I10 K1 E I20 K2 E I31 K3 E E");
        Due.dueAnswer(x, 1, "2 10 2000 11 2000 12 2000 3", "");
        Due.due("set(3, 1)", x.set(3, 1), 0);
        Due.due("set(1, 1)", x.set(1, 1), 0);
        Due.dueAnswer(x, 1, "2 10 2000 12 2000 13 2000 3", "");
        Due.due("set(1, 0)", x.set(1, 0), 0);
        Due.due("set(0, 1)", x.set(0, 1), 0);
        Due.due("set(0, 1) again", x.set(0, 1), 0);
        Due.dueAnswer(x, 1, "2 11 2000 12 2000 13 2000 3", "");
        int[][] wrong = {{-1, 0}, {4, 0}, {0, -1}, {0, 2}, {Integer.MIN_VALUE, 1}, {2, Integer.MAX_VALUE}};
        for (int[] p : wrong) {
            Due.due("set(" + p[0] + ", " + p[1] + ")", x.set(p[0], p[1]), REFUSED);
        }
        Due.dueAnswer(x, 1, "2 11 2000 12 2000 13 2000 3", "");
    }
}
