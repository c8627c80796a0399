/** Promises 9 and 10: token, wipe. */
public final class TextTest {
    private static final int REFUSED = QueryGraph.REFUSED;
    private static final int[] WILD = {Integer.MIN_VALUE, -1, 0, 1, 5, 17, Integer.MAX_VALUE};

    public static void main(String[] args) {
        ranges();
        anyNumberWhereNothingIsSaid();
        full();
        wipe();
        Due.end();
    }

    private static void dueToken(int text, int op, int a, int b, boolean taken) {
        QueryGraph x = new QueryGraph();
        String call = "token(" + text + ", " + op + ", " + a + ", " + b + ")";
        Due.due(call, x.token(text, op, a, b), taken ? 1 : REFUSED);
        for (int t = 0; t < 4; t++) {
            Due.due(call + " and count(" + (4 + t) + ")", x.count(4 + t), taken && t == text ? 1 : 0);
        }
    }

    private static void ranges() {
        for (int n = -2; n <= 12; n++) {
            dueToken(n, 6, 0, 0, n >= 0 && n <= 3);
            dueToken(0, n, 1, 1, n >= 0 && n <= 6);
            dueToken(0, 0, n, 0, n >= 0 && n <= 9);
            dueToken(0, 0, 0, n, n >= 0 && n <= 3);
            dueToken(1, 1, n, 0, n >= 0 && n <= 9);
            dueToken(1, 1, 0, n, n >= 0 && n <= 3);
            dueToken(2, 2, n, 0, n >= 0 && n <= 9);
            dueToken(3, 3, n, 0, n >= 0 && n <= 4);
            dueToken(0, 4, n, 0, n >= 0 && n <= 3);
            dueToken(0, 4, 0, n, n >= 0 && n <= 1);
            dueToken(0, 5, n, 0, n >= 1 && n <= 3);
        }
        for (int n : new int[] {Integer.MIN_VALUE, Integer.MAX_VALUE}) {
            dueToken(n, 6, 0, 0, false);
            dueToken(0, n, 0, 0, false);
            dueToken(0, 0, n, 0, false);
            dueToken(0, 1, 0, n, false);
            dueToken(0, 3, n, 0, false);
            dueToken(0, 4, 0, n, false);
            dueToken(0, 5, n, 0, false);
        }
    }

    private static void anyNumberWhereNothingIsSaid() {
        for (int n : WILD) {
            dueToken(0, 2, 0, n, true);
            dueToken(0, 3, 0, n, true);
            dueToken(0, 5, 1, n, true);
            dueToken(0, 6, n, n, true);
        }
        QueryGraph x = new QueryGraph();
        x.type();
        x.row(0);
        x.token(0, 2, 3, Integer.MAX_VALUE);
        x.token(0, 2, 3, -9);
        x.token(0, 3, 0, 77);
        x.token(0, 6, -5, 100);
        x.token(0, 6, 1000, -1);
        Due.dueAnswer(x, 1, "2 13 2000 3", "");
    }

    private static void full() {
        for (int text = 0; text < 4; text++) {
            QueryGraph x = new QueryGraph();
            for (int i = 1; i <= 16; i++) {
                Due.due("token", x.token(text, i == 16 ? 6 : 2, i % 10, 0), i);
            }
            Due.due("17th token", x.token(text, 6, 0, 0), QueryGraph.FULL);
            Due.due("17th token out of range", x.token(text, 0, 10, 0), REFUSED);
            for (int t = 0; t < 4; t++) {
                Due.due("count(" + (4 + t) + ")", x.count(4 + t), t == text ? 16 : 0);
            }
            Due.due("wipe", x.wipe(text), 16);
            Due.due("token behind the wipe", x.token(text, 6, 0, 0), 1);
        }
    }

    private static void wipe() {
        QueryGraph x = new QueryGraph();
        x.type();
        x.row(0);
        for (int text = 0; text < 4; text++) {
            Due.due("wipe an empty text", x.wipe(text), 0);
        }
        Due.write(x, 0, "K5 U2 E");
        Due.write(x, 2, "K6 E");
        Due.dueAnswer(x, 1, "2 15 2000 16 2000 3", "");
        Due.due("wipe(0)", x.wipe(0), 3);
        Due.due("count(4)", x.count(4), 0);
        Due.due("count(6)", x.count(6), 2);
        Due.due("the answer stays", Due.codes(x), "2 15 2000 16 2000 3");
        Due.due("wipe(0) again", x.wipe(0), 0);
        Due.write(x, 0, "U2 E");
        Due.dueAnswer(x, 1, "2 16 2000 3", "");
        Due.due("wipe(2)", x.wipe(2), 2);
        Due.dueWrong(x, 0, 0);
        for (int text : new int[] {-1, 4, Integer.MIN_VALUE, Integer.MAX_VALUE}) {
            Due.due("wipe(" + text + ")", x.wipe(text), REFUSED);
        }
    }
}
