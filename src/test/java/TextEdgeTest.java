/** The boundary cases of promises 9 and 10, and of the terms on tokens and texts, sentence by sentence. */
public final class TextEdgeTest {
    private static final int REFUSED = QueryGraph.REFUSED;
    private static final int FULL = QueryGraph.FULL;
    private static final int LEAST = Integer.MIN_VALUE;
    private static final int MOST = Integer.MAX_VALUE;
    private static final String FIFTEEN = "K0 K1 K2 K3 K4 K5 K6 K7 K8 K9 K0 K1 K2 K3 K4";

    public static void main(String[] args) {
        fourTexts();
        ops();
        numberAndObject();
        kind();
        on();
        condition();
        use();
        end();
        atTheEnd();
        anyNumberWhereNothingIsSaid();
        sixteenTokens();
        allTextsFullAtOnce();
        wiping();
        noSuchTextToWipe();
        anyRowOfItems();
        justOneSet();
        fourSets();
        theTextsOwnSetCounts();
        Due.end();
    }

    private static void dueToken(int text, int op, int a, int b, boolean taken) {
        QueryGraph x = new QueryGraph();
        String call = "token(" + text + ", " + op + ", " + a + ", " + b + ")";
        Due.due(call, x.token(text, op, a, b), taken ? 1 : REFUSED);
        for (int t = 0; t < 4; t++) {
            Due.due("count(" + (4 + t) + ") behind " + call, x.count(4 + t), taken && t == text ? 1 : 0);
        }
    }

    /** The first number of the op is taken from least to most, and neither below nor above. */
    private static void dueFirst(int op, int least, int most) {
        for (int a : new int[] {LEAST, least - 1, most + 1, MOST}) {
            dueToken(0, op, a, 0, false);
        }
        for (int a = least; a <= most; a++) {
            dueToken(0, op, a, 0, true);
        }
    }

    private static void dueSecond(int op, int least, int most) {
        for (int b : new int[] {LEAST, least - 1, most + 1, MOST}) {
            dueToken(0, op, 1, b, false);
        }
        for (int b = least; b <= most; b++) {
            dueToken(0, op, 1, b, true);
        }
    }

    private static void fourTexts() {
        Due.sentence("TOKENS (op, a, b) are written into one of four TEXTS, at most 16 in each: text 0 is the query, "
            + "1 .. 3 are fragments.");
        for (int text : new int[] {LEAST, -1, 4, MOST}) {
            for (int op = 0; op <= 6; op++) {
                dueToken(text, op, 1, 1, false);
            }
        }
        for (int text = 0; text <= 3; text++) {
            for (int op = 0; op <= 6; op++) {
                dueToken(text, op, 1, 1, true);
            }
        }
    }

    private static void ops() {
        Due.sentence("op 0 .. 6, a and b as said for the op");
        for (int op : new int[] {LEAST, -1, 7, 8, MOST}) {
            dueToken(0, op, 1, 1, false);
            dueToken(3, op, 0, 0, false);
        }
    }

    private static void numberAndObject() {
        Due.sentence("NUMBER 0: a the name 0 .. 9 that it has in the answer, b a field 0 .. 3.");
        dueFirst(0, 0, 9);
        dueSecond(0, 0, 3);
        Due.sentence("OBJECT 1: likewise, with a SET behind.");
        dueFirst(1, 0, 9);
        dueSecond(1, 0, 3);
    }

    private static void kind() {
        Due.sentence("KIND 2: a the name.");
        dueFirst(2, 0, 9);
    }

    private static void on() {
        Due.sentence("ON 3: a a type, with a SET behind.");
        dueFirst(3, 0, 4);
    }

    private static void condition() {
        Due.sentence("IF 4: a a switch 0 .. 3, b 0 or 1, with a SET behind.");
        dueFirst(4, 0, 3);
        dueSecond(4, 0, 1);
    }

    private static void use() {
        Due.sentence("USE 5: a a fragment 1 .. 3.");
        dueFirst(5, 1, 3);
        for (int text = 0; text <= 3; text++) {
            for (int fragment = 0; fragment <= 4; fragment++) {
                dueToken(text, 5, fragment, 0, fragment >= 1 && fragment <= 3);
            }
        }
    }

    private static void end() {
        Due.sentence("END 6.");
        for (int n : new int[] {LEAST, -1, 0, 1, MOST}) {
            dueToken(0, 6, n, 0, true);
            dueToken(3, 6, 0, n, true);
        }
        dueToken(0, 7, 0, 0, false);
    }

    private static void atTheEnd() {
        Due.sentence("Writes a token at the end of the text 0 .. 3:");
        QueryGraph x = new QueryGraph();
        x.type();
        x.row(0);
        for (int name = 9; name >= 3; name--) {
            for (int text = 0; text <= 3; text++) {
                Due.due("token", x.token(text, 2, name - text, 0), 10 - name);
            }
        }
        for (int text = 3; text >= 1; text--) {
            Due.due("token", x.token(text, 6, 0, 0), 8);
        }
        Due.due("token", x.token(0, 5, 3, 0), 8);
        Due.due("token", x.token(0, 6, 0, 0), 9);
        Due.dueAnswer(x, 1,
            "2 19 2000 18 2000 17 2000 16 2000 15 2000 14 2000 13 2000 12 2000 11 2000 10 2000 3", "");
    }

    private static void anyNumberWhereNothingIsSaid() {
        Due.sentence("any number where nothing is said");
        for (int n : new int[] {LEAST, -1, 4, 10, MOST}) {
            dueToken(0, 2, 9, n, true);
            dueToken(1, 3, 4, n, true);
            dueToken(2, 5, 3, n, true);
            dueToken(3, 6, n, n, true);
        }
        QueryGraph x = new QueryGraph();
        x.type();
        x.row(0);
        x.token(0, 5, 1, LEAST);
        x.token(0, 2, 4, MOST);
        x.token(0, 3, 0, LEAST);
        x.token(0, 2, 4, LEAST);
        x.token(0, 6, MOST, LEAST);
        x.token(0, 6, LEAST, MOST);
        x.token(1, 2, 9, -1);
        x.token(1, 6, 7, 7);
        Due.dueAnswer(x, 1, "2 19 2000 14 2000 3", "");
    }

    private static void sixteenTokens() {
        Due.sentence("It has 16: FULL. How many it has.");
        for (int text = 0; text <= 3; text++) {
            QueryGraph x = new QueryGraph();
            for (int i = 1; i <= 16; i++) {
                Due.due("token " + i, x.token(text, 6, 0, 0), i);
                Due.due("count(" + (4 + text) + ")", x.count(4 + text), i);
            }
            for (int op = 0; op <= 6; op++) {
                Due.due("the 17th, of op " + op, x.token(text, op, 1, 1), FULL);
            }
            Due.due("the 17th of no op", x.token(text, 7, 1, 1), REFUSED);
            Due.due("the 17th with no name", x.token(text, 2, 10, 1), REFUSED);
            Due.due("the 17th with no field", x.token(text, 0, 0, 4), REFUSED);
            Due.due("count(" + (4 + text) + ")", x.count(4 + text), 16);
        }
    }

    private static void allTextsFullAtOnce() {
        Due.sentence("TOKENS (op, a, b) are written into one of four TEXTS, at most 16 in each: text 0 is the query, "
            + "1 .. 3 are fragments.");
        QueryGraph x = new QueryGraph();
        x.type();
        x.row(0);
        String[] all = {
            "K9 K9 K9 K9 K9 K9 K9 K9 K9 K9 K9 K9 U1 U3 K8 E",
            "K1 K1 K1 K1 K1 K1 K1 K1 K1 K1 K1 K1 K1 K1 K7 E",
            "K2 K2 K2 K2 K2 K2 K2 K2 K2 K2 K2 K2 K2 K2 K6 E",
            "K3 K3 K3 K3 K3 K3 K3 K3 K3 K3 K3 K3 K3 K3 K5 E",
        };
        for (int text = 0; text <= 3; text++) {
            Due.write(x, text, all[text]);
        }
        for (int text = 0; text <= 3; text++) {
            Due.due("the 17th of text " + text, x.token(text, 6, 0, 0), FULL);
            Due.due("count(" + (4 + text) + ")", x.count(4 + text), 16);
        }
        Due.dueAnswer(x, 1, "2 19 2000 11 2000 17 2000 13 2000 15 2000 18 2000 3", "");
    }

    private static void wiping() {
        Due.sentence("The text is empty. How many tokens it had.");
        for (int text = 0; text <= 3; text++) {
            QueryGraph x = new QueryGraph();
            for (int other = 0; other <= 3; other++) {
                Due.write(x, other, "K0 K1 E");
            }
            Due.write(x, text, FIFTEEN + " E");
            Due.due("wipe(" + text + ") of 16", x.wipe(text), 16);
            for (int other = 0; other <= 3; other++) {
                Due.due("count(" + (4 + other) + ")", x.count(4 + other), other == text ? 0 : 3);
            }
            Due.due("wipe(" + text + ") of none", x.wipe(text), 0);
            Due.due("a first token", x.token(text, 6, 0, 0), 1);
            Due.due("wipe(" + text + ") of one", x.wipe(text), 1);
        }
        QueryGraph y = new QueryGraph();
        y.type();
        Due.write(y, 0, "E");
        Due.dueRight(y, 0);
        y.wipe(0);
        Due.dueWrong(y, 0, 0);
    }

    private static void noSuchTextToWipe() {
        Due.sentence("Numbers out of range are tested first: REFUSED.");
        QueryGraph x = new QueryGraph();
        for (int text = 0; text <= 3; text++) {
            Due.write(x, text, "K0 E");
        }
        for (int text : new int[] {LEAST, -1, 4, MOST}) {
            Due.due("wipe(" + text + ")", x.wipe(text), REFUSED);
        }
        for (int text = 0; text <= 3; text++) {
            Due.due("count(" + (4 + text) + ")", x.count(4 + text), 2);
        }
    }

    /** Both as the query and as a fragment, used inside of four SETS. */
    private static void dueGood(String tokens, boolean good) {
        QueryGraph x = new QueryGraph();
        x.type();
        x.field(0, QueryGraph.NUMBER, 0, false);
        x.field(0, QueryGraph.LINK, 0, false);
        Due.write(x, 0, tokens);
        Due.due("check of '" + tokens + "'", x.check(0), good ? 0 : QueryGraph.WRONG);
        Due.due("place of '" + tokens + "'", x.place(), good ? REFUSED : 0);
        Due.write(x, 0, "I00 I00 I00 K0 U2 E E E E");
        Due.write(x, 2, tokens);
        Due.due("check of the fragment '" + tokens + "'", x.check(0), good ? 0 : QueryGraph.WRONG);
        Due.due("place of the fragment '" + tokens + "'", x.place(), good ? REFUSED : 4);
    }

    private static void anyRowOfItems() {
        Due.sentence("A SET is any row of items, then END; an item is one of the others, with its SET where it has one.");
        dueGood("E", true);
        dueGood("N00 E", true);
        dueGood("K0 E", true);
        dueGood("O01 E E", true);
        dueGood("T0 E E", true);
        dueGood("I00 E E", true);
        dueGood(FIFTEEN + " E", true);
        dueGood("I00 E I00 E I00 E I00 E I00 E I00 E I00 E K0 E", true);
        dueGood("O01 E", false);
        dueGood("T0 E", false);
        dueGood("I00 E", false);
        dueGood("N00 E E", false);
        dueGood("K0 E E", false);
        dueGood("U1 E E", false);
    }

    private static void justOneSet() {
        Due.sentence("A text is GOOD if it is just one SET;");
        dueGood("", false);
        dueGood("K0", false);
        dueGood(FIFTEEN + " K5", false);
        dueGood("O01", false);
        dueGood("E E", false);
        dueGood("E K0", false);
        dueGood("E K0 E", false);
        dueGood("K0 E K0 E", false);
        dueGood("I00 E E E", false);
        dueGood("E I00 E", false);
        dueGood("E E E E E E E E E E E E E E E E", false);
    }

    private static void fourSets() {
        Due.sentence("a token is not inside of more than 4 SETS (the text's own one counts).");
        String[] openers = {"O01", "T0", "I00"};
        for (String opener : openers) {
            String three = opener + " " + opener + " " + opener + " ";
            dueGood(three + "E E E E", true);
            dueGood(three + "K0 E E E E", true);
            dueGood(three + opener + " E E E E E", false);
            dueGood(three + opener + " K0 E E E E E", false);
            dueGood(three + "E " + opener + " E E E E", true);
            dueGood(three + "E " + opener + " " + opener + " E E E E E", false);
        }
        dueGood("O01 T0 I00 K0 E E E E", true);
        dueGood("T0 I00 O01 T0 E E E E E", false);
        dueGood("I00 I00 I00 I00 I00 E E E E E E", false);
    }

    private static void theTextsOwnSetCounts() {
        Due.sentence("a token is not inside of more than 4 SETS (the text's own one counts).");
        QueryGraph x = new QueryGraph();
        x.type();
        for (int text = 0; text <= 2; text++) {
            Due.write(x, text, "I00 I00 I00 U" + (text + 1) + " E E E E");
        }
        Due.write(x, 3, "I00 I00 I00 K7 E E E E");
        Due.dueRight(x, 0);
        x.row(0);
        Due.dueAnswer(x, 1, "2 17 2000 3", "");
        Due.write(x, 3, "I00 I00 I00 I00 E E E E E");
        Due.dueWrong(x, 0, 2 * 16 + 3);
    }
}
