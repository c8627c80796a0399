/** What the tests of the project share: comparing, writing queries briefly, reading answers whole. */
final class Due {
    private static int wrong = 0;
    private static String sentence = "";

    private Due() {
    }

    /** The words of the document that the next comparisons are for; they stand beside each one that fails. */
    static void sentence(String words) {
        sentence = words;
    }

    static void due(String call, int got, int want) {
        if (got != want) {
            tell(call + " answered " + got + ", due is " + want);
        }
    }

    static void due(String what, String got, String want) {
        if (!got.equals(want)) {
            tell(what + " was '" + got + "', due is '" + want + "'");
        }
    }

    private static void tell(String fault) {
        wrong++;
        System.out.println(fault + (sentence.isEmpty() ? "" : " [" + sentence + "]"));
    }

    static void end() {
        System.out.println(wrong == 0 ? "all answers are as due" : wrong + " answers are not as due");
        if (wrong != 0) {
            System.exit(1);
        }
    }

    /**
     * Writes a text anew. A token is a letter and its digits: Nnf (name, field), Onf, Kn, Tt (ON a type),
     * Isv (switch, value), Uf (fragment), E (END).
     */
    static void write(QueryGraph x, int text, String tokens) {
        x.wipe(text);
        int length = 0;
        for (String token : tokens.trim().split(" +")) {
            if (token.isEmpty()) {
                continue;
            }
            int op = "NOKTIUE".indexOf(token.charAt(0));
            int a = token.length() > 1 ? token.charAt(1) - '0' : 0;
            int b = token.length() > 2 ? token.charAt(2) - '0' : 0;
            length++;
            due("token " + token + " of '" + tokens + "'", x.token(text, op, a, b), length);
        }
    }

    /** The codes of the last answer, read up to the first one that is REFUSED. */
    static String codes(QueryGraph x) {
        StringBuilder all = new StringBuilder();
        for (int i = 0; i < 1000 && x.code(i) != QueryGraph.REFUSED; i++) {
            all.append(i == 0 ? "" : " ").append(x.code(i));
        }
        return all.toString();
    }

    /** The places of the last answer, each with its parts joined by dots. */
    static String places(QueryGraph x) {
        StringBuilder all = new StringBuilder();
        for (int k = 0; k < 1000 && x.missing(k, 0) != QueryGraph.REFUSED; k++) {
            all.append(k == 0 ? "" : " ");
            for (int i = 0; i < 1000 && x.missing(k, i) != QueryGraph.REFUSED; i++) {
                all.append(i == 0 ? "" : ".").append(x.missing(k, i));
            }
        }
        return all.toString();
    }

    static void dueAnswer(QueryGraph x, int row, String codes, String places) {
        int length = codes.split(" ").length;
        due("ask(" + row + ")", x.ask(row), length);
        due("codes of ask(" + row + ")", codes(x), codes);
        due("places of ask(" + row + ")", places(x), places);
        due("count(2)", x.count(2), length);
        due("count(3)", x.count(3), places.isEmpty() ? 0 : places.split(" ").length);
        due("place() behind ask(" + row + ")", x.place(), QueryGraph.REFUSED);
    }

    /** An ask whose whole answer is cut back to nothing. */
    static void dueAnswerOfNothing(QueryGraph x, int row, int places) {
        due("ask(" + row + ")", x.ask(row), 1);
        due("codes of ask(" + row + ")", codes(x), "1");
        due("count(3)", x.count(3), places);
        due("how many places can be read", places(x).split(" ").length, places);
    }

    /** An ask that has no answer: WRONG, CLASH or LONG. */
    static void dueNoAnswer(QueryGraph x, int row, int answer) {
        due("ask(" + row + ")", x.ask(row), answer);
        due("count(2)", x.count(2), 0);
        due("count(3)", x.count(3), 0);
        due("code(0)", x.code(0), QueryGraph.REFUSED);
        due("missing(0, 0)", x.missing(0, 0), QueryGraph.REFUSED);
        if (answer != QueryGraph.WRONG) {
            due("place()", x.place(), QueryGraph.REFUSED);
        }
    }

    /** A check that finds the token at this place WRONG. */
    static void dueWrong(QueryGraph x, int type, int place) {
        due("check(" + type + ")", x.check(type), QueryGraph.WRONG);
        due("place()", x.place(), place);
    }

    static void dueRight(QueryGraph x, int type) {
        due("check(" + type + ")", x.check(type), 0);
        due("place()", x.place(), QueryGraph.REFUSED);
    }
}
