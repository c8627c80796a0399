/** Promises 11 and 12: check, place. */
public final class CheckTest {
    private static final int REFUSED = QueryGraph.REFUSED;

    public static void main(String[] args) {
        goodTexts();
        fields();
        onTypes();
        expectedTypes();
        uses();
        fragmentsAreCheckedWhereUsed();
        sixtyTokens();
        placeLasts();
        refused();
        Due.end();
    }

    /** Fields of type 0: NUMBER, LINK to 0, MANY of 1, LINK to any; of type 1: NUMBER, LINK to 1. Type 2 has none. */
    private static QueryGraph typed() {
        QueryGraph x = new QueryGraph();
        x.type();
        x.type();
        x.type();
        x.field(0, QueryGraph.NUMBER, 3, false);
        x.field(0, QueryGraph.LINK, 0, false);
        x.field(0, QueryGraph.MANY, 1, false);
        x.field(0, QueryGraph.LINK, 5, false);
        x.field(1, QueryGraph.NUMBER, 0, false);
        x.field(1, QueryGraph.LINK, 1, false);
        return x;
    }

    private static void dueGood(String tokens, boolean good) {
        QueryGraph x = typed();
        Due.write(x, 0, tokens);
        Due.due("check of '" + tokens + "'", x.check(0), good ? 0 : QueryGraph.WRONG);
        Due.due("place of '" + tokens + "'", x.place(), good ? REFUSED : 0);
        Due.write(x, 0, "K0 U3 E");
        Due.write(x, 3, tokens);
        Due.due("check of the fragment '" + tokens + "'", x.check(0), good ? 0 : QueryGraph.WRONG);
        Due.due("place of the fragment '" + tokens + "'", x.place(), good ? REFUSED : 1);
    }

    private static void goodTexts() {
        dueGood("", false);
        dueGood("E", true);
        dueGood("K0", false);
        dueGood("K0 E", true);
        dueGood("K0 E E", false);
        dueGood("E K0", false);
        dueGood("E E", false);
        dueGood("O11 E", false);
        dueGood("O11 E E", true);
        dueGood("T0 E", false);
        dueGood("T0 E E", true);
        dueGood("I00 E", false);
        dueGood("I00 E E", true);
        dueGood("K0 E K0 E", false);
        dueGood("O11 O11 O11 E E E E", true);
        dueGood("O11 O11 O11 K0 N10 E E E E", true);
        dueGood("O11 O11 O11 O11 E E E E E", false);
        dueGood("O11 T0 I00 K0 E E E E", true);
        dueGood("O11 T0 I00 I01 E E E E E", false);
        dueGood("O11 T0 I00 T0 E E E E E", false);
        dueGood("O11 E O11 E O11 E O11 E O11 E E", true);
        dueGood("K0 K1 K2 K3 K4 K5 K6 K7 K8 K9 K0 K1 K2 K3 K4 E", true);
        dueGood("K0 K1 K2 K3 K4 K5 K6 K7 K8 K9 K0 K1 K2 K3 K4 K5", false);
        dueGood("O11 O11 O11 O11", false);
    }

    private static void dueCheck(int type, String tokens, int place) {
        QueryGraph x = typed();
        Due.write(x, 0, tokens);
        String call = "check(" + type + ") of '" + tokens + "'";
        Due.due(call, x.check(type), place < 0 ? 0 : QueryGraph.WRONG);
        Due.due("place() of " + call, x.place(), place < 0 ? REFUSED : place);
    }

    private static void fields() {
        dueCheck(0, "N00 E", -1);
        dueCheck(0, "N01 E", 0);
        dueCheck(0, "N02 E", 0);
        dueCheck(0, "N03 E", 0);
        dueCheck(0, "O00 E E", 0);
        dueCheck(0, "O01 E E", -1);
        dueCheck(0, "O02 E E", -1);
        dueCheck(0, "O03 E E", -1);
        dueCheck(1, "K0 N02 E", 1);
        dueCheck(1, "K0 O02 E E", 1);
        dueCheck(1, "O03 E E", 0);
        dueCheck(2, "N00 E", 0);
        dueCheck(2, "O00 E E", 0);
        dueCheck(2, "K0 K9 E", -1);
        dueCheck(0, "K0 N00 N01 N02 E", 2);
        dueCheck(0, "I01 N01 E E", 1);
    }

    private static void onTypes() {
        dueCheck(0, "T0 E E", -1);
        dueCheck(0, "T1 E E", 0);
        dueCheck(0, "T3 E E", 0);
        dueCheck(0, "T4 E E", 0);
        dueCheck(1, "T1 N00 E E", -1);
        dueCheck(0, "T0 T0 N00 E E E", -1);
        dueCheck(0, "T0 T1 E E E", 1);
        dueCheck(0, "O03 T0 E T1 E T2 E T3 E E E", 7);
        dueCheck(0, "O03 T0 T1 E E E E", 2);
    }

    private static void expectedTypes() {
        dueCheck(0, "O01 N00 O02 N00 E E E", -1);
        dueCheck(0, "O02 O01 O01 N00 E E E E", -1);
        dueCheck(0, "O02 O02 E E E", 1);
        dueCheck(0, "O02 T1 E T0 E E E", 3);
        dueCheck(0, "O03 K0 E E", -1);
        dueCheck(0, "O03 N00 E E", 1);
        dueCheck(0, "O03 O01 E E E", 1);
        dueCheck(0, "O03 I00 K0 N00 E E E", 3);
        dueCheck(0, "O03 T1 N00 O01 N00 E E E E", -1);
        dueCheck(0, "O03 T1 E N00 E E", 3);
        dueCheck(0, "O03 T0 O02 N00 E E N00 E E", 6);
        dueCheck(0, "O03 E N00 E", -1);
        dueCheck(0, "O02 E O02 N01 E E", 3);
        dueCheck(0, "I00 O02 E O02 E E O03 E E", -1);
    }

    private static void uses() {
        QueryGraph x = typed();
        Due.write(x, 0, "U1 U2 U1 E");
        Due.dueWrong(x, 0, 0);
        Due.write(x, 1, "K1 E");
        Due.dueWrong(x, 0, 1);
        Due.write(x, 2, "U1 U1 E");
        Due.dueRight(x, 0);
        Due.write(x, 2, "U1 U3 E");
        Due.dueWrong(x, 0, 33);
        Due.write(x, 3, "U1 I01 U2 E E");
        Due.dueWrong(x, 0, 50);
        Due.write(x, 3, "U3 E");
        Due.dueWrong(x, 0, 48);
        Due.write(x, 3, "U1 E");
        Due.dueRight(x, 0);
        Due.write(x, 1, "K1 E E");
        Due.dueWrong(x, 0, 0);
        Due.write(x, 0, "U3 E");
        Due.dueWrong(x, 0, 48);
        Due.write(x, 0, "N01 U1 E");
        Due.dueWrong(x, 0, 0);
        Due.write(x, 0, "K0 E");
        Due.dueRight(x, 0);
    }

    private static void fragmentsAreCheckedWhereUsed() {
        QueryGraph x = typed();
        Due.write(x, 1, "N00 O01 N00 E E");
        Due.write(x, 0, "U1 O02 U1 E E");
        Due.dueRight(x, 0);
        Due.write(x, 1, "N00 O12 E E");
        Due.dueWrong(x, 0, 17);
        Due.dueWrong(x, 1, 17);
        Due.write(x, 0, "O02 E U1 E");
        Due.dueRight(x, 0);
        Due.write(x, 0, "O03 U1 E E");
        Due.dueWrong(x, 0, 16);
        Due.write(x, 0, "O03 T0 U1 E U1 E E");
        Due.dueWrong(x, 0, 16);
        Due.write(x, 0, "U1 N01 E");
        Due.dueWrong(x, 0, 1);
        Due.write(x, 2, "O02 U3 E N03 E");
        Due.write(x, 3, "N00 E");
        Due.write(x, 0, "U2 E");
        Due.dueWrong(x, 0, 35);
        Due.write(x, 3, "N03 E");
        Due.dueWrong(x, 0, 48);
    }

    /** The query's 4 tokens and 3 times 16 are 52; each KIND more is one more. */
    private static void sixtyTokens() {
        QueryGraph x = typed();
        Due.write(x, 1, "K0 K1 K2 K3 K4 K5 K6 K7 K8 K9 K0 K1 K2 K3 K4 E");
        Due.write(x, 0, "U1 U1 U1 K0 K1 K2 K3 K4 K5 K6 K7 E");
        Due.dueRight(x, 0);
        Due.write(x, 0, "U1 U1 U1 K0 K1 K2 K3 K4 K5 K6 K7 K8 E");
        Due.dueWrong(x, 0, 12);
        Due.write(x, 0, "U1 U1 U1 K0 K1 K2 K3 K4 K5 K6 K7 K8 K9 E");
        Due.dueWrong(x, 0, 12);
        Due.write(x, 0, "U1 U1 U1 K0 K1 K2 K3 K4 K5 K6 K7 K8 N01 E");
        Due.dueWrong(x, 0, 12);
        Due.write(x, 0, "U1 U1 U1 K0 K1 K2 K3 K4 K5 K6 N01 K8 N02 E");
        Due.dueWrong(x, 0, 10);
        Due.write(x, 0, "U1 U1 U1 U1 E");
        Due.dueWrong(x, 0, 16 + 60 - 52);
        Due.write(x, 0, "K0 K1 K2 U1 U1 U1 U1 E");
        Due.dueWrong(x, 0, 16 + 60 - 55);
        Due.write(x, 0, "I00 U1 U1 U1 U2 E E");
        Due.write(x, 2, "U3 U3 E");
        Due.write(x, 3, "K0 K1 E");
        Due.dueWrong(x, 0, 48 + 2);
        Due.write(x, 3, "K0 E");
        Due.dueWrong(x, 0, 5);
        Due.write(x, 3, "E");
        Due.dueRight(x, 0);
    }

    private static void placeLasts() {
        QueryGraph x = typed();
        Due.due("place() at first", x.place(), REFUSED);
        x.row(0);
        Due.write(x, 0, "K0 N01 E");
        Due.dueWrong(x, 0, 1);
        Due.due("place() again", x.place(), 1);
        Due.due("check(3)", x.check(3), REFUSED);
        Due.due("ask(2)", x.ask(2), REFUSED);
        Due.due("place() behind what is REFUSED", x.place(), 1);
        Due.write(x, 0, "K0 E");
        Due.due("place() behind a new text", x.place(), 1);
        Due.dueRight(x, 0);
        Due.write(x, 0, "K0 K1 N01 E");
        Due.due("place() before the next check", x.place(), REFUSED);
        Due.dueNoAnswer(x, 1, QueryGraph.WRONG);
        Due.due("place() behind ask", x.place(), 2);
        Due.write(x, 0, "K0 E");
        Due.dueAnswer(x, 1, "2 10 2000 3", "");
        Due.write(x, 0, "N01 E");
        Due.dueWrong(x, 0, 0);
        Due.due("check leaves the answer", Due.codes(x), "2 10 2000 3");
        Due.write(x, 0, "K0 N00 E");
        Due.dueNoAnswer(x, 1, QueryGraph.CLASH);
    }

    private static void refused() {
        QueryGraph x = typed();
        Due.write(x, 0, "K0 E");
        for (int type : new int[] {-1, 3, 4, 5, Integer.MIN_VALUE, Integer.MAX_VALUE}) {
            Due.due("check(" + type + ")", x.check(type), REFUSED);
        }
        for (int type = 0; type < 3; type++) {
            Due.dueRight(x, type);
        }
    }
}
