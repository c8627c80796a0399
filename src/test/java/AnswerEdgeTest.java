/** The boundary cases of promises 14 to 16, and of how long an object is used, sentence by sentence. */
public final class AnswerEdgeTest {
    private static final int REFUSED = QueryGraph.REFUSED;
    private static final int LEAST = Integer.MIN_VALUE;
    private static final int MOST = Integer.MAX_VALUE;
    private static final String TEN = "N00 N10 N20 N30 N40 N50 N60 N70 N80 N90 E";

    public static void main(String[] args) {
        codesFromZero();
        codesOfTheLongest();
        noCodes();
        codesOfTheLastAsk();
        partsFromZero();
        placesInTheOrderFound();
        placesOfTheMost();
        noPlaces();
        placesOfTheLastAsk();
        countsAtFirst();
        countsAtMost();
        otherCounts();
        fiveHundredTwelveCalls();
        Due.end();
    }

    /**
     * Type 0: NUMBER that is required, LINK to 0, MANY of 0. Row 1 links to row 2, which has no number and is four times
     * in row 1's MANY.
     */
    private static QueryGraph linked() {
        QueryGraph x = new QueryGraph();
        x.type();
        x.field(0, QueryGraph.NUMBER, 0, true);
        x.field(0, QueryGraph.LINK, 0, false);
        x.field(0, QueryGraph.MANY, 0, false);
        x.row(0);
        x.row(0);
        x.put(1, 0, 999);
        x.link(1, 1, 2);
        for (int i = 0; i < 4; i++) {
            x.link(1, 2, 2);
        }
        return x;
    }

    private static void dueNoCodeFrom(QueryGraph x, int count) {
        for (int i : new int[] {LEAST, -count, -1, count, count + 1, 119, 120, 121, MOST}) {
            if (i < 0 || i >= count) {
                Due.due("code(" + i + ") of " + count, x.code(i), REFUSED);
            }
        }
    }

    private static void codesFromZero() {
        Due.sentence("The i-th code (from 0) of the answer of the last ask; REFUSED if there is none.");
        QueryGraph x = linked();
        Due.write(x, 0, "N90 E");
        Due.due("ask(1)", x.ask(1), 4);
        int[] want = {2, 19, 1999, 3};
        for (int i = 0; i < 4; i++) {
            Due.due("code(" + i + ")", x.code(i), want[i]);
        }
        dueNoCodeFrom(x, 4);
        Due.due("ask(2)", x.ask(2), 1);
        Due.due("code(0)", x.code(0), 1);
        dueNoCodeFrom(x, 1);
        Due.write(x, 0, "E");
        Due.due("ask(2)", x.ask(2), 2);
        Due.due("code(0)", x.code(0), 2);
        Due.due("code(1)", x.code(1), 3);
        dueNoCodeFrom(x, 2);
    }

    private static void codesOfTheLongest() {
        Due.sentence("The i-th code (from 0) of the answer of the last ask; REFUSED if there is none.");
        QueryGraph x = linked();
        x.put(2, 0, 7);
        Due.write(x, 1, TEN);
        Due.write(x, 0, "O02 U1 E O12 E O22 E O31 E K4 E");
        Due.due("ask(1)", x.ask(1), 120);
        StringBuilder want = new StringBuilder("2 10 4");
        for (int object = 0; object < 4; object++) {
            want.append(" 2");
            for (int name = 0; name < 10; name++) {
                want.append(" ").append(10 + name).append(" 1007");
            }
            want.append(" 3");
        }
        want.append(" 5 11 4 2 3 2 3 2 3 2 3 5 12 4 2 3 2 3 2 3 2 3 5 13 2 3 14 2000 3");
        Due.due("codes", Due.codes(x), want.toString());
        Due.due("code(119)", x.code(119), 3);
        dueNoCodeFrom(x, 120);
    }

    private static void noCodes() {
        Due.sentence("The i-th code (from 0) of the answer of the last ask; REFUSED if there is none.");
        QueryGraph x = linked();
        dueNoCodeFrom(x, 0);
        Due.write(x, 0, "N00 K0 E");
        Due.due("ask(1), a clash", x.ask(1), QueryGraph.CLASH);
        dueNoCodeFrom(x, 0);
        Due.write(x, 0, "N00");
        Due.due("ask(1), wrong", x.ask(1), QueryGraph.WRONG);
        dueNoCodeFrom(x, 0);
    }

    private static void codesOfTheLastAsk() {
        Due.sentence("The i-th code (from 0) of the answer of the last ask; REFUSED if there is none.");
        QueryGraph x = linked();
        Due.write(x, 0, "K0 N10 O22 E E");
        Due.dueAnswer(x, 1, "2 10 2000 11 1999 12 4 2 3 2 3 2 3 2 3 5 3", "");
        x.put(1, 0, 5);
        x.clear(1, 2);
        Due.write(x, 0, "N01 E");
        Due.due("check(0)", x.check(0), QueryGraph.WRONG);
        Due.due("ask(3), which is REFUSED", x.ask(3), REFUSED);
        Due.due("codes", Due.codes(x), "2 10 2000 11 1999 12 4 2 3 2 3 2 3 2 3 5 3");
        Due.write(x, 0, "K0 E");
        Due.dueAnswer(x, 1, "2 10 2000 3", "");
        dueNoCodeFrom(x, 4);
    }

    private static void partsFromZero() {
        Due.sentence("noted as MISSING by the last ask the i-th part; REFUSED if there is none.");
        QueryGraph x = linked();
        Due.write(x, 0, "O91 N00 E O82 N70 E E");
        Due.due("ask(1)", x.ask(1), 11);
        int[][] want = {{9, 0}, {8, 10, 7}, {8, 11, 7}, {8, 12, 7}, {8, 13, 7}};
        for (int k = 0; k < want.length; k++) {
            for (int i = 0; i < want[k].length; i++) {
                Due.due("missing(" + k + ", " + i + ")", x.missing(k, i), want[k][i]);
            }
            for (int i : new int[] {LEAST, -1, want[k].length, want[k].length + 1, 26, MOST}) {
                Due.due("missing(" + k + ", " + i + ")", x.missing(k, i), REFUSED);
            }
        }
        for (int k : new int[] {LEAST, -1, 5, 6, 59, 60, MOST}) {
            Due.due("missing(" + k + ", 0)", x.missing(k, 0), REFUSED);
            Due.due("missing(" + k + ", -1)", x.missing(k, -1), REFUSED);
        }
    }

    private static void placesInTheOrderFound() {
        Due.sentence("Of the k-th place (from 0, in the order in which they were found)");
        QueryGraph x = linked();
        x.clear(1, 0);
        Due.write(x, 0, "N50 O31 N20 N10 E N40 O02 N90 N80 E N60 E");
        Due.dueAnswer(x, 1, "1",
            "5 3.2 3.1 4 0.10.9 0.10.8 0.11.9 0.11.8 0.12.9 0.12.8 0.13.9 0.13.8 6");
    }

    private static void placesOfTheMost() {
        Due.sentence("Of the k-th place (from 0, in the order in which they were found)");
        QueryGraph x = linked();
        x.clear(1, 0);
        Due.write(x, 1, TEN);
        Due.write(x, 0, "O02 U1 E O11 U1 E N20 N30 E");
        Due.dueAnswerOfNothing(x, 1, 52);
        StringBuilder want = new StringBuilder();
        for (int object = 0; object < 4; object++) {
            for (int name = 0; name < 10; name++) {
                want.append("0.").append(10 + object).append(".").append(name).append(" ");
            }
        }
        for (int name = 0; name < 10; name++) {
            want.append("1.").append(name).append(" ");
        }
        Due.due("places", Due.places(x), want + "2 3");
        Due.due("missing(51, 0)", x.missing(51, 0), 3);
        Due.due("missing(51, 1)", x.missing(51, 1), REFUSED);
        Due.due("missing(52, 0)", x.missing(52, 0), REFUSED);
    }

    private static void noPlaces() {
        Due.sentence("noted as MISSING by the last ask the i-th part; REFUSED if there is none.");
        QueryGraph x = linked();
        Due.due("missing(0, 0) before the first ask", x.missing(0, 0), REFUSED);
        Due.write(x, 0, "N00 E");
        Due.due("ask(1)", x.ask(1), 4);
        Due.due("missing(0, 0)", x.missing(0, 0), REFUSED);
    }

    private static void placesOfTheLastAsk() {
        Due.sentence("noted as MISSING by the last ask the i-th part; REFUSED if there is none.");
        QueryGraph x = linked();
        Due.write(x, 0, "N70 E");
        Due.dueAnswer(x, 2, "1", "7");
        x.put(2, 0, 1);
        x.wipe(0);
        Due.due("check(0)", x.check(0), QueryGraph.WRONG);
        Due.due("ask(0), which is REFUSED", x.ask(0), REFUSED);
        Due.due("places", Due.places(x), "7");
        Due.due("count(3)", x.count(3), 1);
        Due.write(x, 0, "N70 E");
        Due.dueAnswer(x, 2, "2 17 1001 3", "");
    }

    private static void countsAtFirst() {
        Due.sentence("Types (0), rows (1), codes of the answer (2), places MISSING (3), tokens of the texts 0 .. 3 "
            + "(4 .. 7); else REFUSED.");
        QueryGraph x = new QueryGraph();
        for (int what = 0; what <= 7; what++) {
            Due.due("count(" + what + ")", x.count(what), 0);
        }
    }

    private static void countsAtMost() {
        Due.sentence("Types (0), rows (1), codes of the answer (2), places MISSING (3), tokens of the texts 0 .. 3 "
            + "(4 .. 7); else REFUSED.");
        QueryGraph x = linked();
        while (x.row(0) != QueryGraph.FULL) {
            Due.due("count(0)", x.count(0), 1);
        }
        Due.write(x, 1, TEN + " E E E E E");
        for (int text = 2; text <= 3; text++) {
            Due.write(x, text, "E E E E E E E E E E E E E E E E");
        }
        Due.write(x, 0, "O02 N00 E N10 N20 N30 O41 N00 E K5 K6 K7 K8 E");
        Due.due("ask(1)", x.ask(1), 1 + 2 + 4 + 1 + 6 + 2 + 8 + 1);
        int[] want = {1, 12, 25, 5, 14, 16, 16, 16};
        for (int what = 0; what <= 7; what++) {
            Due.due("count(" + what + ")", x.count(what), want[what]);
        }
        QueryGraph y = new QueryGraph();
        while (y.type() != QueryGraph.FULL) {
            Due.due("count(1)", y.count(1), 0);
        }
        Due.due("count(0)", y.count(0), 5);
    }

    private static void otherCounts() {
        Due.sentence("Types (0), rows (1), codes of the answer (2), places MISSING (3), tokens of the texts 0 .. 3 "
            + "(4 .. 7); else REFUSED.");
        QueryGraph x = linked();
        for (int what : new int[] {LEAST, LEAST + 3, -5, -1, 8, 9, 16, MOST}) {
            Due.due("count(" + what + ")", x.count(what), REFUSED);
        }
    }

    private static void fiveHundredTwelveCalls() {
        Due.sentence("An object is used for at most 512 calls after it has been made;");
        QueryGraph x = linked();
        int calls = 11;
        for (; calls + 5 <= 512; calls += 5) {
            Due.due("wipe(0)", x.wipe(0), calls == 11 ? 0 : 2);
            Due.due("token", x.token(0, 0, calls % 10, 0), 1);
            Due.due("token", x.token(0, 6, 0, 0), 2);
            Due.due("ask(2)", x.ask(2), 1);
            Due.due("missing(0, 0)", x.missing(0, 0), calls % 10);
        }
        Due.due("the 512th call", x.count(3), 1);
    }
}
