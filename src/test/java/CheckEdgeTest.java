/** The boundary cases of promises 11 and 12, and of the terms on CHECKING, sentence by sentence. */
public final class CheckEdgeTest {
    private static final int REFUSED = QueryGraph.REFUSED;
    private static final int RIGHT = -1;
    private static final int[] FAR = {Integer.MIN_VALUE, -1, 5, 6, Integer.MAX_VALUE};
    private static final String FIFTEEN = "K0 K1 K2 K3 K4 K5 K6 K7 K8 K9 K0 K1 K2 K3 K4";

    public static void main(String[] args) {
        theFirstToken();
        usesAreFollowed();
        theTypeAtFirst();
        withinOn();
        withinAnObject();
        withinConditionAndUse();
        anyType();
        numbersAndObjects();
        noSuchType();
        neitherThatNorAny();
        fragmentNotGood();
        goneThroughAlready();
        sixtyTokens();
        theSixtyFirst();
        theSixtyFirstOfAFragment();
        textNotGood();
        typeThatThereIs();
        zeroOrWrong();
        placeAtTheEnds();
        placeOfTheLastOne();
        placeBeforeTheFirst();
        Due.end();
    }

    /**
     * Fields of type 0: NUMBER, LINK to 1, MANY of 0, LINK to any; of type 1: LINK to 0, NUMBER; of type 3: MANY of any.
     * Type 2 has none, and type 4 is not there.
     */
    private static QueryGraph typed() {
        QueryGraph x = new QueryGraph();
        for (int i = 0; i < 4; i++) {
            x.type();
        }
        x.field(0, QueryGraph.NUMBER, 4, false);
        x.field(0, QueryGraph.LINK, 1, false);
        x.field(0, QueryGraph.MANY, 0, false);
        x.field(0, QueryGraph.LINK, 5, false);
        x.field(1, QueryGraph.LINK, 0, false);
        x.field(1, QueryGraph.NUMBER, 0, false);
        x.field(3, QueryGraph.MANY, 5, false);
        return x;
    }

    private static void dueCheck(int type, int place, String... texts) {
        QueryGraph x = typed();
        for (int text = 0; text < texts.length; text++) {
            Due.write(x, text, texts[text]);
        }
        String call = "check(" + type + ") of '" + String.join("' with '", texts) + "'";
        Due.due(call, x.check(type), place == RIGHT ? 0 : QueryGraph.WRONG);
        Due.due("place() behind " + call, x.place(), place == RIGHT ? REFUSED : place);
    }

    private static void theFirstToken() {
        Due.sentence("the first token that is WRONG, going through the tokens from the query's first one on");
        dueCheck(0, 0, "N01 N02 N03 E");
        dueCheck(0, 1, "N00 N02 N03 E");
        dueCheck(0, 2, "N00 N00 N03 E");
        dueCheck(0, RIGHT, "N00 N00 N00 E");
        dueCheck(0, 14, "K0 K1 K2 K3 K4 K5 K6 K7 K8 K9 K0 K1 K2 K3 N01 E");
        dueCheck(0, RIGHT, "K0 K1 K2 K3 K4 K5 K6 K7 K8 K9 K0 K1 K2 K3 N00 E");
    }

    private static void usesAreFollowed() {
        Due.sentence("a USE being followed by the tokens of the fragment, which then goes on behind the USE");
        dueCheck(0, 16, "U1 N01 E", "N01 E");
        dueCheck(0, 1, "U1 N01 E", "N00 E");
        dueCheck(0, 0, "N01 U1 E", "N01 E");
        dueCheck(0, 3 * 16 + 14, "U1 E", "U2 E", "U3 E", "K0 K1 K2 K3 K4 K5 K6 K7 K8 K9 K0 K1 K2 K3 N01 E");
        dueCheck(0, 2 * 16 + 1, "U1 N01 E", "U2 N01 E", "U3 N01 E", "E");
        dueCheck(0, 16 + 1, "U1 N01 E", "U2 N01 E", "U3 N00 E", "E");
        dueCheck(0, 1, "U1 N01 E", "U2 N00 E", "U3 N00 E", "E");
        Due.sentence("CHECKING the query with a type t (0 .. 4; the type that it is asked of)");
        dueCheck(0, RIGHT, "K0 E", "N01 E", "U1 U2", "E E");
    }

    private static void theTypeAtFirst() {
        Due.sentence("the expected type is t at first;");
        dueCheck(0, RIGHT, "N00 E");
        dueCheck(1, 0, "N00 E");
        dueCheck(1, RIGHT, "N01 E");
        dueCheck(0, 0, "N01 E");
        dueCheck(3, RIGHT, "O00 E E");
        dueCheck(2, 0, "O00 E E");
    }

    private static void withinOn() {
        Due.sentence("within ON a it is a;");
        dueCheck(3, RIGHT, "O00 T0 N00 E T1 N01 E E E");
        dueCheck(3, 5, "O00 T0 N00 E T1 N00 E E E");
        dueCheck(3, 3, "O00 T2 K0 N00 E E E");
        dueCheck(0, RIGHT, "T0 N00 E E");
        dueCheck(3, 4, "O00 T0 K0 E N00 E E");
    }

    private static void withinAnObject() {
        Due.sentence("within an OBJECT the target of its field;");
        dueCheck(0, RIGHT, "O01 N01 E N00 E");
        dueCheck(0, 1, "O01 N00 E N00 E");
        dueCheck(0, 3, "O01 N01 E N01 E");
        dueCheck(0, RIGHT, "O02 N00 O01 N01 O00 N00 E E E E");
        dueCheck(0, 4, "O02 N00 O01 N01 N00 E E E");
        dueCheck(1, RIGHT, "O00 O01 O00 N00 E E E E");
    }

    private static void withinConditionAndUse() {
        Due.sentence("within IF and USE it stays.");
        dueCheck(0, RIGHT, "I00 N00 E N00 E");
        dueCheck(0, 1, "I01 N01 E N00 E");
        dueCheck(0, RIGHT, "O01 I31 N01 I00 N01 E E E N00 E");
        dueCheck(0, RIGHT, "U1 O01 U2 E U1 E", "N00 E", "N01 E");
        dueCheck(0, 32, "U1 O01 U2 E U2 E", "N00 E", "N01 E");
        dueCheck(0, 16, "U1 O01 U1 E E", "N00 E");
        dueCheck(0, 17, "U1 E", "O01 N00 E E");
        dueCheck(0, RIGHT, "O03 T1 U1 E E E", "I00 N01 E E");
    }

    private static void anyType() {
        Due.sentence("5 is any type.");
        dueCheck(0, RIGHT, "O03 K0 T0 E T1 E T2 E T3 E E E");
        dueCheck(0, 1, "O03 N00 E E");
        dueCheck(0, 1, "O03 O00 E E E");
        dueCheck(0, 2, "O03 I00 N00 E E E");
        dueCheck(0, 16, "O03 U1 E E", "N00 E");
        dueCheck(3, 1, "O00 N00 E E");
    }

    private static void numbersAndObjects() {
        Due.sentence("NUMBER, OBJECT: the expected type is 5; or it has no field b, or this is no NUMBER, or no LINK "
            + "and no MANY.");
        int[] kinds = {0, 1, 2, 1};
        for (int field = 0; field <= 3; field++) {
            dueCheck(0, kinds[field] == 0 ? RIGHT : 0, "N0" + field + " E");
            dueCheck(0, kinds[field] == 0 ? 0 : RIGHT, "O0" + field + " E E");
            dueCheck(1, field == 1 ? RIGHT : 0, "N0" + field + " E");
            dueCheck(1, field == 0 ? RIGHT : 0, "O0" + field + " E E");
            dueCheck(2, 0, "N0" + field + " E");
            dueCheck(2, 0, "O0" + field + " E E");
            dueCheck(3, 0, "N0" + field + " E");
            dueCheck(3, field == 0 ? RIGHT : 0, "O0" + field + " E E");
            dueCheck(3, 1, "O00 N0" + field + " E E");
            dueCheck(3, 1, "O00 O0" + field + " E E E");
        }
    }

    private static void noSuchType() {
        Due.sentence("ON: there is no type a; or the expected type is neither a nor 5.");
        dueCheck(0, 1, "O03 T4 E E E");
        dueCheck(0, RIGHT, "O03 T3 E E E");
        dueCheck(0, 0, "T4 E E");
        QueryGraph x = typed();
        Due.write(x, 0, "O03 T4 E E E");
        Due.dueWrong(x, 0, 1);
        Due.due("type()", x.type(), 4);
        Due.dueRight(x, 0);
    }

    private static void neitherThatNorAny() {
        Due.sentence("ON: there is no type a; or the expected type is neither a nor 5.");
        for (int type = 0; type <= 3; type++) {
            for (int a = 0; a <= 4; a++) {
                dueCheck(type, a == type ? RIGHT : 0, "T" + a + " E E");
                dueCheck(3, a == type ? RIGHT : 2, "O00 T" + type + " T" + a + " E E E E");
            }
        }
        for (int a = 0; a <= 4; a++) {
            dueCheck(0, a == 1 ? RIGHT : 1, "O01 T" + a + " E E E");
        }
    }

    private static void fragmentNotGood() {
        Due.sentence("USE: the fragment is not GOOD, or it is being gone through already.");
        for (int fragment = 1; fragment <= 3; fragment++) {
            QueryGraph x = typed();
            Due.write(x, 0, "K0 U" + fragment + " E");
            Due.dueWrong(x, 0, 1);
            for (String bad : new String[] {"K0", "E E", "K0 E E", "I00 E", "I00 I00 I00 I00 E E E E E"}) {
                Due.write(x, fragment, bad);
                Due.dueWrong(x, 0, 1);
            }
            Due.write(x, fragment, "E");
            Due.dueRight(x, 0);
        }
        dueCheck(0, 16 + 1, "U1 E", "K0 U2 E", "K0");
        dueCheck(0, 0, "N01 U1 E", "K0");
        dueCheck(0, 16, "U1 U2 E", "N01 E", "K0");
    }

    private static void goneThroughAlready() {
        Due.sentence("USE: the fragment is not GOOD, or it is being gone through already.");
        dueCheck(0, 16, "U1 E", "U1 E");
        dueCheck(0, 2 * 16 + 1, "U1 E", "U2 E", "K0 U1 E");
        dueCheck(0, 3 * 16 + 2, "U1 E", "U2 E", "U3 E", "K0 K1 U1 E");
        dueCheck(0, 3 * 16, "U1 E", "U2 E", "U3 E", "U2 E");
        dueCheck(0, 16 + 1, "U1 E", "I01 U1 E E");
        dueCheck(0, 2 * 16, "U2 E", "E", "U2 E");
        // One that was gone through and left may be used again.
        dueCheck(0, RIGHT, "U1 U1 U1 E", "K0 E");
        dueCheck(0, RIGHT, "U1 U2 U1 E", "K0 E", "U1 U1 E");
        dueCheck(0, RIGHT, "U1 U2 U3 E", "U2 U3 U2 E", "U3 E", "E");
        // A check that ended amid a fragment leaves nothing behind for the next one.
        QueryGraph x = typed();
        Due.write(x, 0, "U1 E");
        Due.write(x, 1, "U2 E");
        Due.write(x, 2, "U1 E");
        Due.dueWrong(x, 0, 2 * 16);
        Due.dueWrong(x, 0, 2 * 16);
        Due.write(x, 2, "E");
        Due.dueRight(x, 0);
    }

    /** Of the query's own tokens the 3 USES, the KINDS and the END; 48 of the fragment. */
    private static String queryOf(int kinds) {
        StringBuilder query = new StringBuilder("U1 U1 U1 ");
        for (int i = 0; i < kinds; i++) {
            query.append("K").append(i % 10).append(" ");
        }
        return query.append("E").toString();
    }

    private static void sixtyTokens() {
        Due.sentence("If there are more than 60 tokens to be gone through in this way, the 61st is WRONG.");
        dueCheck(0, RIGHT, queryOf(7), FIFTEEN + " E");
        dueCheck(0, RIGHT, queryOf(8), FIFTEEN + " E");
        dueCheck(0, 12, queryOf(9), FIFTEEN + " E");
        dueCheck(0, 12, queryOf(10), FIFTEEN + " E");
        dueCheck(0, 12, queryOf(12), FIFTEEN + " E");
        QueryGraph x = typed();
        x.row(0);
        Due.write(x, 1, FIFTEEN + " E");
        Due.write(x, 0, queryOf(8));
        Due.due("ask(1) with 60", x.ask(1), 22);
        Due.write(x, 0, queryOf(9));
        Due.dueNoAnswer(x, 1, QueryGraph.WRONG);
        Due.due("place()", x.place(), 12);
    }

    private static void theSixtyFirst() {
        Due.sentence("If there are more than 60 tokens to be gone through in this way, the 61st is WRONG.");
        String before = "U1 U1 U1 K0 K1 K2 K3 K4 K5 K6 K7 K8 ";
        // Whatever the 61st is, right by itself or not, and whatever is behind it.
        for (String last : new String[] {"E", "K9 E", "N00 E", "N01 E", "U2 E", "U3 E", "I00 E E", "O01 E E", "T2 E E"}) {
            dueCheck(0, 12, before + last, FIFTEEN + " E", "E");
        }
        // One that is WRONG by itself before it is found first, the 60th too.
        dueCheck(0, 11, "U1 U1 U1 K0 K1 K2 K3 K4 K5 K6 K7 N01 E", FIFTEEN + " E");
        dueCheck(0, 10, "U1 U1 U1 K0 K1 K2 K3 K4 K5 K6 N01 K8 E", FIFTEEN + " E");
        dueCheck(0, 11, "U1 U1 U1 K0 K1 K2 K3 K4 K5 K6 K7 U2 E", FIFTEEN + " E");
        dueCheck(0, 16 + 14, "U1 U1 U1 U1 E", "K0 K1 K2 K3 K4 K5 K6 K7 K8 K9 K0 K1 K2 K3 N01 E");
    }

    private static void theSixtyFirstOfAFragment() {
        Due.sentence("If there are more than 60 tokens to be gone through in this way, the 61st is WRONG.");
        // The USE is the 60th token, so the first of the fragment is the 61st.
        dueCheck(0, 32, "U1 U1 U1 K0 K1 K2 K3 K4 K5 K6 K7 U2 E", FIFTEEN + " E", "E");
        dueCheck(0, 33, "U1 U1 U1 K0 K1 K2 K3 K4 K5 K6 U2 E", FIFTEEN + " E", "K0 E");
        dueCheck(0, 11, "U1 U1 U1 K0 K1 K2 K3 K4 K5 K6 U2 K9 E", FIFTEEN + " E", "E");
        dueCheck(0, RIGHT, "U1 U1 U1 K0 K1 K2 K3 K4 K5 U2 E", FIFTEEN + " E", "E");
        // 17 for each USE and its fragment, twice, 10 KINDS, and the third USE: the END of the third is the 61st.
        dueCheck(0, 63, "U1 U2 K0 K1 K2 K3 K4 K5 K6 K7 K8 K9 U3 E", FIFTEEN + " E", FIFTEEN + " E", FIFTEEN + " E");
        dueCheck(0, 12, "U1 U2 K0 K1 K2 K3 K4 K5 K6 K7 K8 U3 E", FIFTEEN + " E", FIFTEEN + " E", FIFTEEN + " E");
    }

    private static void textNotGood() {
        Due.sentence("(A text that is not GOOD is found before: the query's own, WRONG at its token 0.)");
        dueCheck(0, 0, "");
        dueCheck(0, 0, "K0");
        dueCheck(0, 0, "K0 N01");
        dueCheck(0, 0, "K0 N01 E E");
        dueCheck(0, 0, "K0 U1", "N01 E");
        dueCheck(0, 0, FIFTEEN + " K5");
        dueCheck(0, 0, "U1 U1 U1 K0 K1 K2 K3 K4 K5 K6 K7 K8 K9 K0", FIFTEEN + " E");
        dueCheck(0, 1, "K0 U1 E", "N01");
        dueCheck(0, 1, "K0 U1 E", "");
    }

    private static void typeThatThereIs() {
        Due.sentence("CHECKS the query with a type that there is: 0, or WRONG.");
        for (int types = 0; types <= 5; types++) {
            QueryGraph x = new QueryGraph();
            for (int i = 0; i < types; i++) {
                x.type();
            }
            for (int type = 0; type < 5; type++) {
                Due.due("check(" + type + ") of " + types, x.check(type), type < types ? QueryGraph.WRONG : REFUSED);
            }
            for (int type : FAR) {
                Due.due("check(" + type + ") of " + types, x.check(type), REFUSED);
            }
        }
    }

    private static void zeroOrWrong() {
        Due.sentence("CHECKS the query with a type that there is: 0, or WRONG.");
        QueryGraph x = typed();
        Due.write(x, 0, "K0 K0 N00 E");
        Due.dueRight(x, 0);
        Due.dueWrong(x, 1, 2);
        Due.dueWrong(x, 3, 2);
        Due.due("a clash is none of its business", x.check(0), 0);
        x.row(0);
        Due.due("codes before", x.count(2), 0);
        Due.dueRight(x, 0);
        Due.due("a check gives no answer", x.count(2), 0);
    }

    private static void placeAtTheEnds() {
        Due.sentence("If the last check or ask that was not REFUSED answered WRONG: 16 * the text + the number of the "
            + "token that is WRONG;");
        dueCheck(0, 0, "N01 E");
        dueCheck(0, 14, "K0 K1 K2 K3 K4 K5 K6 K7 K8 K9 K0 K1 K2 K3 N01 E");
        for (int text = 1; text <= 3; text++) {
            String[] texts = {"U" + text + " E", "E", "E", "E"};
            texts[text] = "N01 E";
            dueCheck(0, 16 * text, texts);
            texts[text] = "K0 K1 K2 K3 K4 K5 K6 K7 K8 K9 K0 K1 K2 K3 N01 E";
            dueCheck(0, 16 * text + 14, texts);
        }
    }

    private static void placeOfTheLastOne() {
        Due.sentence("If the last check or ask that was not REFUSED answered WRONG: 16 * the text + the number of the "
            + "token that is WRONG;");
        QueryGraph x = typed();
        x.row(0);
        x.row(1);
        Due.write(x, 0, "K0 N11 E");
        Due.dueWrong(x, 0, 1);
        Due.due("check(4), which is REFUSED", x.check(4), REFUSED);
        Due.due("ask(3), which is REFUSED", x.ask(3), REFUSED);
        Due.due("place()", x.place(), 1);
        Due.due("ask(2)", x.ask(2), 6);
        Due.due("place()", x.place(), REFUSED);
        Due.due("ask(1)", x.ask(1), QueryGraph.WRONG);
        Due.due("place()", x.place(), 1);
        Due.due("check(1)", x.check(1), 0);
        Due.due("check(4), which is REFUSED", x.check(4), REFUSED);
        Due.due("place()", x.place(), REFUSED);
        Due.write(x, 0, "N01 E");
        Due.due("ask(1)", x.ask(1), QueryGraph.WRONG);
        Due.due("place() of the first token", x.place(), 0);
        Due.write(x, 0, "K0 N00 E");
        Due.due("place() behind wipe and token", x.place(), 0);
        Due.due("ask(1), a clash", x.ask(1), QueryGraph.CLASH);
        Due.due("place()", x.place(), REFUSED);
        longAnswer(x);
    }

    private static void longAnswer(QueryGraph x) {
        for (int i = 0; i < 4; i++) {
            x.link(1, 2, 1);
        }
        Due.write(x, 0, "O02 O02 O02 E E E E");
        Due.dueWrong(x, 1, 0);
        Due.due("ask(1), which is LONG", x.ask(1), QueryGraph.LONG);
        Due.due("place()", x.place(), REFUSED);
    }

    private static void placeBeforeTheFirst() {
        Due.sentence("else, and before the first one, REFUSED.");
        QueryGraph x = new QueryGraph();
        Due.due("place()", x.place(), REFUSED);
        Due.due("check(0), which is REFUSED", x.check(0), REFUSED);
        Due.due("ask(1), which is REFUSED", x.ask(1), REFUSED);
        Due.due("place()", x.place(), REFUSED);
        x.type();
        x.row(0);
        x.token(0, 0, 0, 0);
        Due.due("place()", x.place(), REFUSED);
        Due.due("check(0)", x.check(0), QueryGraph.WRONG);
        Due.due("place()", x.place(), 0);
    }
}
