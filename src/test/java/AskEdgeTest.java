/** The boundary cases of promise 13, and of the terms on ASKING, COLLECTING and MISSING, sentence by sentence. */
public final class AskEdgeTest {
    private static final int REFUSED = QueryGraph.REFUSED;
    private static final int WRONG = QueryGraph.WRONG;
    private static final int CLASH = QueryGraph.CLASH;
    private static final int LONG = QueryGraph.LONG;
    /** Ten NUMBERS of field 0, one for each name. */
    private static final String TEN = "N00 N10 N20 N30 N40 N50 N60 N70 N80 N90 E";
    /** Four OBJECTS with ten NUMBERS each, their MANY with its name, and the 2 and 3 around all. */
    private static final int FIRST = 4 * 22 + 3 + 2;

    public static void main(String[] args) {
        theObjectOfTheRow();
        noSuchRow();
        itemsInOrder();
        tenNames();
        onItsType();
        ifTheSwitchIs();
        useOfAFragment();
        sameOpAndField();
        kindsNeedTheOpAlone();
        setsBehindThoseOfTheEntry();
        nothingOrAValue();
        entriesInTheirOrder();
        requiredAndNothing();
        notedIfNothingByItself();
        objectsOfMany();
        allEntriesAreWorkedOut();
        theAnswerMayBeNothing();
        placeOfNames();
        placeOfMany();
        theLongestPlace();
        theLongestPlaceOfLinks();
        codesOfTheAnswer();
        wrongBeforeClash();
        theCode121();
        everyCodeCounts();
        codesThatAreCutBackCount();
        theOneInItsPlace();
        collectedBeforeItsTwo();
        clashOrLongWhatComesFirst();
        noAnswerWithThese();
        howManyCodes();
        Due.end();
    }

    /**
     * Fields of type 0: NUMBER, LINK to 0, MANY of 0, LINK to any; of type 1: NUMBER, MANY of any. The first three of
     * type 0 and the first of type 1 are required or not. Rows 1 .. 4 are of type 0, row 5 is of type 1.
     */
    private static QueryGraph rows(boolean number, boolean link, boolean many) {
        QueryGraph x = new QueryGraph();
        x.type();
        x.type();
        x.field(0, QueryGraph.NUMBER, 0, number);
        x.field(0, QueryGraph.LINK, 0, link);
        x.field(0, QueryGraph.MANY, 0, many);
        x.field(0, QueryGraph.LINK, 5, false);
        x.field(1, QueryGraph.NUMBER, 0, number);
        x.field(1, QueryGraph.MANY, 5, false);
        for (int row = 1; row <= 5; row++) {
            x.row(row == 5 ? 1 : 0);
            x.put(row, 0, row);
        }
        return x;
    }

    private static QueryGraph free() {
        return rows(false, false, false);
    }

    private static void linkFour(QueryGraph x, int row, int other) {
        for (int i = 0; i < 4; i++) {
            x.link(row, 2, other);
        }
    }

    private static void dueAsk(QueryGraph x, int row, String query, String codes, String places) {
        Due.write(x, 0, query);
        Due.dueAnswer(x, row, codes, places);
    }

    private static void dueNone(QueryGraph x, int row, String query, int answer) {
        Due.write(x, 0, query);
        Due.dueNoAnswer(x, row, answer);
    }

    private static void theObjectOfTheRow() {
        Due.sentence("ASKING a row (its type is t), if the query is checked so: the answer is the OBJECT of the row "
            + "with the query's SET.");
        QueryGraph x = free();
        dueAsk(x, 1, "E", "2 3", "");
        dueAsk(x, 5, "E", "2 3", "");
        dueAsk(x, 1, "N00 O13 E E", "2 10 1001 11 1 3", "");
        Due.dueNoAnswer(x, 5, WRONG);
        Due.due("place()", x.place(), 1);
        dueAsk(x, 5, "N00 O11 E E", "2 10 1005 11 4 5 3", "");
        dueAsk(x, 5, "T1 K0 E E", "2 10 2001 3", "");
        Due.dueNoAnswer(x, 4, WRONG);
        Due.due("place()", x.place(), 0);
    }

    private static void noSuchRow() {
        Due.sentence("Numbers out of range are tested first: REFUSED.");
        QueryGraph x = free();
        dueAsk(x, 5, "K0 E", "2 10 2001 3", "");
        x.wipe(0);
        for (int row : new int[] {Integer.MIN_VALUE, -1, 0, 6, 12, 13, Integer.MAX_VALUE}) {
            Due.due("ask(" + row + ")", x.ask(row), REFUSED);
            Due.due("place()", x.place(), REFUSED);
            Due.due("codes", Due.codes(x), "2 10 2001 3");
        }
        Due.dueNoAnswer(x, 5, WRONG);
    }

    private static void itemsInOrder() {
        Due.sentence("To COLLECT of a row with one or more SETS: their items in order:");
        QueryGraph x = free();
        x.link(1, 1, 2);
        dueAsk(x, 1, "K1 T0 K2 I00 K3 E K4 E K5 E", "2 11 2000 12 2000 13 2000 14 2000 15 2000 3", "");
        dueAsk(x, 1, "O01 T0 K3 E E O01 I00 K2 E E O01 K1 E E", "2 10 2 13 2000 12 2000 11 2000 3 3", "");
        Due.sentence("The OBJECT of a row with SETS has the ENTRIES collected, each with a value:");
        dueAsk(x, 1, "I01 K0 E O01 I01 K0 E E E", "2 10 2 3 3", "");
    }

    private static void tenNames() {
        Due.sentence("make an ENTRY with their name, or if there is an ENTRY with that name:");
        QueryGraph x = free();
        Due.write(x, 1, TEN);
        String codes = "2";
        for (int name = 0; name <= 9; name++) {
            codes += " " + (10 + name) + " 1001";
        }
        dueAsk(x, 1, "U1 E", codes + " 3", "");
        dueAsk(x, 1, "U1 U1 N90 N00 E", codes + " 3", "");
        dueNone(x, 1, "U1 K9 E", CLASH);
        dueNone(x, 1, "K9 U1 E", CLASH);
        dueNone(x, 1, "U1 K0 E", CLASH);
    }

    private static void onItsType() {
        Due.sentence("ON a: if the row's type is a, the items of its SET;");
        QueryGraph x = free();
        x.link(1, 3, 5);
        x.link(2, 3, 1);
        String query = "O03 T0 N10 E T1 N10 O21 E E E E";
        dueAsk(x, 1, query, "2 10 2 11 1005 12 4 5 3 3", "");
        dueAsk(x, 2, query, "2 10 2 11 1001 3 3", "");
        dueAsk(x, 1, "O03 T0 E E E", "2 10 2 3 3", "");
        dueAsk(x, 1, "O03 T0 T0 K0 E K1 E K2 E E", "2 10 2 12 2001 3 3", "");
        dueAsk(x, 2, "O03 T0 T0 K0 E K1 E K2 E E", "2 10 2 10 2000 11 2000 12 2000 3 3", "");
    }

    private static void ifTheSwitchIs() {
        Due.sentence("IF: if the switch a is b, those of its SET;");
        QueryGraph x = free();
        for (int which = 0; which <= 3; which++) {
            String query = "I" + which + "0 K0 E I" + which + "1 K1 E I" + which + "0 I" + which + "1 K2 E K3 E E";
            x.set(which, 0);
            dueAsk(x, 1, query, "2 10 2000 13 2000 3", "");
            x.set(which, 1);
            dueAsk(x, 1, query, "2 11 2000 3", "");
        }
    }

    private static void useOfAFragment() {
        Due.sentence("USE: those of the fragment's SET;");
        QueryGraph x = free();
        x.link(1, 3, 5);
        Due.write(x, 1, "E");
        dueAsk(x, 1, "U1 E", "2 3", "");
        dueAsk(x, 1, "K0 U1 K1 E", "2 10 2000 11 2000 3", "");
        Due.write(x, 1, "K2 U3 K4 E");
        Due.write(x, 3, "K3 E");
        dueAsk(x, 1, "K0 U1 K1 E", "2 10 2000 12 2000 13 2000 14 2000 11 2000 3", "");
        Due.write(x, 2, "T0 N00 E T1 N90 E E");
        dueAsk(x, 1, "O03 U2 E E", "2 10 2 19 1005 3 3", "");
    }

    private static void sameOpAndField() {
        Due.sentence("it must be of the same op and field (KIND: op alone), else CLASH");
        String[] items = {"K%d ", "N%d0 ", "O%d1 E ", "O%d2 E ", "O%d3 E "};
        for (String first : items) {
            for (String second : items) {
                QueryGraph x = free();
                Due.write(x, 0, String.format(first + second + "E", 0, 0));
                Due.due("'" + first + second + "' with one name", x.ask(1), first.equals(second) ? x.count(2) : CLASH);
                Due.write(x, 0, String.format(first + second + "E", 0, 1));
                Due.due("'" + first + second + "' with two names", x.ask(1), x.count(2));
            }
        }
        QueryGraph y = new QueryGraph();
        y.type();
        y.field(0, QueryGraph.NUMBER, 0, false);
        y.field(0, QueryGraph.NUMBER, 0, false);
        y.row(0);
        dueNone(y, 1, "N90 N91 E", CLASH);
        dueAsk(y, 1, "N91 N91 E", "2 19 1 3", "");
        dueAsk(y, 1, "N91 N80 E", "2 19 1 18 1 3", "");
        // The same name in OBJECTS of their own is no CLASH, and what is not COLLECTED is none.
        QueryGraph z = free();
        z.link(1, 1, 2);
        dueAsk(z, 1, "K0 O11 N00 E E", "2 10 2000 11 2 10 1002 3 3", "");
        dueAsk(z, 1, "K0 I01 N00 E E", "2 10 2000 3", "");
        dueAsk(z, 2, "K0 O11 N00 K0 E E", "2 10 2000 11 1 3", "");
        dueNone(z, 1, "K0 O11 N00 K0 E E", CLASH);
    }

    private static void kindsNeedTheOpAlone() {
        Due.sentence("it must be of the same op and field (KIND: op alone), else CLASH");
        QueryGraph x = free();
        x.token(0, 2, 0, 1);
        x.token(0, 2, 0, 2);
        x.token(0, 2, 0, Integer.MIN_VALUE);
        x.token(0, 6, 0, 0);
        Due.dueAnswer(x, 1, "2 10 2000 3", "");
    }

    private static void setsBehindThoseOfTheEntry() {
        Due.sentence("and then an OBJECT's SET is put behind those of the ENTRY.");
        QueryGraph x = free();
        x.link(1, 1, 2);
        x.link(1, 2, 3);
        x.link(1, 2, 4);
        dueAsk(x, 1, "O01 K2 E K1 O01 K1 E O01 K0 E E", "2 10 2 12 2000 11 2000 10 2000 3 11 2000 3", "");
        dueAsk(x, 1, "O01 E O01 K1 E E", "2 10 2 11 2000 3 3", "");
        dueAsk(x, 1, "O01 E O01 E E", "2 10 2 3 3", "");
        dueAsk(x, 1, "O02 N00 E O02 K1 N00 E E", "2 10 4 2 10 1003 11 2000 3 2 10 1004 11 2000 3 5 3", "");
        dueNone(x, 1, "O01 K0 E O01 N00 E E", CLASH);
        dueNone(x, 1, "O02 K0 E O02 N00 E E", CLASH);
        x.clear(1, 2);
        dueAsk(x, 1, "O02 K0 E O02 N00 E E", "2 10 4 5 3", "");
    }

    private static void nothingOrAValue() {
        Due.sentence("KIND: the row's type. NUMBER: the number, or nothing. LINK: nothing, or the OBJECT of the row "
            + "linked with the ENTRY'S SETS.");
        QueryGraph x = free();
        String query = "K9 N00 O11 N00 E E";
        dueAsk(x, 1, query, "2 19 2000 10 1001 11 1 3", "");
        x.clear(1, 0);
        x.link(1, 1, 1);
        dueAsk(x, 1, query, "2 19 2000 10 1 11 2 10 1 3 3", "");
        x.put(1, 0, 0);
        dueAsk(x, 1, query, "2 19 2000 10 1000 11 2 10 1000 3 3", "");
        Due.sentence("MANY: the row of the OBJECTS of the rows, with the SETS.");
        dueAsk(x, 1, "O92 E E", "2 19 4 5 3", "");
        linkFour(x, 1, 1);
        dueAsk(x, 1, "O92 E E", "2 19 4 2 3 2 3 2 3 2 3 5 3", "");
    }

    private static void entriesInTheirOrder() {
        Due.sentence("ENTRIES are worked out in their order.");
        QueryGraph x = free();
        dueAsk(x, 1, "K9 K0 K5 K0 K9 E", "2 19 2000 10 2000 15 2000 3", "");
        dueAsk(x, 1, "K9 K8 K7 K6 K5 K4 K3 K2 K1 K0 E",
            "2 19 2000 18 2000 17 2000 16 2000 15 2000 14 2000 13 2000 12 2000 11 2000 10 2000 3", "");
    }

    private static void requiredAndNothing() {
        Due.sentence("MISSING: a NUMBER or LINK that is required and whose value is nothing: the OBJECT that it is an "
            + "entry of becomes nothing, and this place is noted");
        QueryGraph x = rows(true, true, true);
        x.put(1, 0, 0);
        dueAsk(x, 1, "K1 N00 K2 E", "2 11 2000 10 1000 12 2000 3", "");
        x.clear(1, 0);
        dueAsk(x, 1, "K1 N00 K2 E", "1", "0");
        dueAsk(x, 1, "K1 O91 E K2 E", "1", "9");
        x.link(1, 1, 2);
        dueAsk(x, 1, "K1 O91 E K2 E", "2 11 2000 19 2 3 12 2000 3", "");
        // Neither a MANY without rows, nor a LINK that is not required, nor what is not asked for.
        dueAsk(x, 1, "O92 N00 E E", "2 19 4 5 3", "");
        dueAsk(x, 1, "O93 E E", "2 19 1 3", "");
        dueAsk(x, 1, "K0 E", "2 10 2000 3", "");
    }

    private static void notedIfNothingByItself() {
        Due.sentence("this place is noted, if it was nothing by itself (not because something in it was missing).");
        QueryGraph x = rows(true, true, true);
        x.link(1, 1, 2);
        x.clear(2, 0);
        dueAsk(x, 1, "K1 O91 N00 E E", "1", "9.0");
        x.link(2, 1, 3);
        x.link(3, 1, 4);
        x.clear(4, 0);
        dueAsk(x, 1, "O91 O81 O71 N60 E E E E", "1", "9.8.7.6");
        Due.write(x, 1, "O61 E N50 E");
        dueAsk(x, 1, "O91 O81 O71 U1 E E E E", "1", "9.8.7.6 9.8.7.5");
    }

    private static void objectsOfMany() {
        Due.sentence("An OBJECT of a MANY that becomes nothing makes the MANY'S OBJECT (the one that the MANY is an "
            + "entry of) nothing, if the field is required; else it is nothing there.");
        for (int lost = 2; lost <= 4; lost++) {
            QueryGraph needed = rows(true, true, true);
            QueryGraph spared = rows(true, true, false);
            String codes = "2 15 4";
            for (int row = 2; row <= 4; row++) {
                needed.link(1, 2, row);
                spared.link(1, 2, row);
                codes += row == lost ? " 1" : " 2 10 " + (1000 + row) + " 3";
            }
            needed.clear(lost, 0);
            spared.clear(lost, 0);
            dueAsk(needed, 1, "O52 N00 E E", "1", "5." + (10 + lost - 2) + ".0");
            dueAsk(spared, 1, "O52 N00 E E", codes + " 5 3", "5." + (10 + lost - 2) + ".0");
            // Only the MANY's own OBJECT: the one around it stands, if it is linked by what is not required.
            needed.link(4, 3, 1);
            dueAsk(needed, 4, "K1 O23 T0 O52 N00 E E E E", "2 11 2000 12 1 3", "2.5." + (10 + lost - 2) + ".0");
        }
    }

    private static void allEntriesAreWorkedOut() {
        Due.sentence("All entries are worked out, also when something before is MISSING.");
        QueryGraph x = rows(true, true, true);
        for (int row = 1; row <= 3; row++) {
            x.clear(row, 0);
        }
        x.link(1, 2, 2);
        x.link(1, 2, 3);
        x.link(1, 3, 2);
        dueAsk(x, 1, "N00 N10 O21 E O32 N00 N10 E O43 T0 N00 E E E", "1",
            "0 1 2 3.10.0 3.10.1 3.11.0 3.11.1 4.0");
        dueNone(x, 1, "N00 O43 T0 N00 K0 E E E", CLASH);
        dueNone(x, 1, "O32 N00 E O43 K0 T0 N00 E E E", CLASH);
    }

    private static void theAnswerMayBeNothing() {
        Due.sentence("At last the answer may be nothing.");
        QueryGraph x = rows(true, false, false);
        x.clear(5, 0);
        dueAsk(x, 5, "K1 N00 E", "1", "0");
        Due.due("code(1)", x.code(1), REFUSED);
    }

    private static void placeOfNames() {
        Due.sentence("A PLACE is the row of names, and for MANY behind the name 10 + the number (from 0) in it, from the "
            + "outermost one on.");
        QueryGraph x = rows(true, false, false);
        x.link(1, 1, 2);
        x.link(2, 1, 3);
        x.clear(3, 0);
        dueAsk(x, 3, "N00 E", "1", "0");
        dueAsk(x, 3, "N90 E", "1", "9");
        dueAsk(x, 1, "O01 O91 N50 E E E", "2 10 2 19 1 3 3", "0.9.5");
        dueAsk(x, 1, "O01 T0 O91 N50 E E E E", "2 10 2 19 1 3 3", "0.9.5");
        dueAsk(x, 1, "O01 I00 O91 N50 E E E E", "2 10 2 19 1 3 3", "0.9.5");
        Due.write(x, 1, "O91 N50 E E");
        dueAsk(x, 1, "O01 U1 E E", "2 10 2 19 1 3 3", "0.9.5");
    }

    private static void placeOfMany() {
        Due.sentence("A PLACE is the row of names, and for MANY behind the name 10 + the number (from 0) in it, from the "
            + "outermost one on.");
        QueryGraph x = rows(true, false, false);
        linkFour(x, 1, 2);
        x.clear(2, 0);
        dueAsk(x, 1, "O02 N90 E E", "2 10 4 1 1 1 1 5 3", "0.10.9 0.11.9 0.12.9 0.13.9");
        linkFour(x, 2, 2);
        x.clear(1, 2);
        x.link(1, 2, 3);
        x.link(1, 2, 2);
        dueAsk(x, 1, "O92 O02 N10 E E E", "2 19 4 2 10 4 5 3 2 10 4 1 1 1 1 5 3 5 3",
            "9.11.0.10.1 9.11.0.11.1 9.11.0.12.1 9.11.0.13.1");
        x.link(4, 1, 1);
        dueAsk(x, 4, "O31 O92 N10 E E E", "2 13 2 19 4 2 11 1003 3 1 5 3 3", "3.9.11.1");
    }

    /** Three OBJECTS within one another in each of the four texts, and rows 1 and 3 in turn on the way in. */
    private static void theLongestPlace() {
        Due.sentence("A PLACE is the row of names, and for MANY behind the name 10 + the number (from 0) in it, from the "
            + "outermost one on.");
        QueryGraph x = rows(true, false, false);
        x.link(1, 2, 2);
        x.link(1, 2, 3);
        x.link(3, 2, 1);
        x.clear(1, 0);
        for (int text = 0; text <= 3; text++) {
            Due.write(x, text, "O02 O12 O22 " + (text == 3 ? "N90" : "U" + (text + 1)) + " E E E E");
        }
        Due.due("ask(1): 12 OBJECTS of 5, 6 empty ones of 5, and the 1", x.ask(1), 12 * 5 + 6 * 5 + 1);
        Due.due("the place", Due.places(x), "0.11.1.10.2.11.0.10.1.11.2.10.0.11.1.10.2.11.0.10.1.11.2.10.9");
    }

    private static void theLongestPlaceOfLinks() {
        Due.sentence("A PLACE is the row of names, and for MANY behind the name 10 + the number (from 0) in it, from the "
            + "outermost one on.");
        QueryGraph x = rows(true, false, false);
        x.link(1, 1, 1);
        x.clear(1, 0);
        for (int text = 0; text <= 3; text++) {
            Due.write(x, text, "O01 O11 O21 " + (text == 3 ? "N90" : "U" + (text + 1)) + " E E E E");
        }
        Due.dueAnswer(x, 1, "2 10 2 11 2 12 2 10 2 11 2 12 2 10 2 11 2 12 2 10 2 11 2 12 1 3 3 3 3 3 3 3 3 3 3 3 3",
            "0.1.2.0.1.2.0.1.2.0.1.2.9");
    }

    private static void codesOfTheAnswer() {
        Due.sentence("The ANSWER as a row of codes: nothing: 1; a number n: 1000 + n; KIND: 2000 + type; a MANY: 4, its "
            + "OBJECTS, 5; an OBJECT: 2, for each entry 10 + name and the value, 3.");
        QueryGraph x = free();
        x.put(1, 0, 0);
        dueAsk(x, 1, "N00 E", "2 10 1000 3", "");
        x.put(1, 0, 999);
        dueAsk(x, 1, "N90 E", "2 19 1999 3", "");
        dueAsk(x, 1, "K0 O91 E O82 E E", "2 10 2000 19 1 18 4 5 3", "");
        QueryGraph y = new QueryGraph();
        for (int type = 0; type < 5; type++) {
            y.type();
        }
        y.row(4);
        dueAsk(y, 1, "K9 E", "2 19 2004 3", "");
    }

    private static void wrongBeforeClash() {
        Due.sentence("WRONG, or what comes first: CLASH, or LONG when the 121st code is to be worked out.");
        QueryGraph x = free();
        dueNone(x, 1, "K0 N00 N01 E", WRONG);
        Due.due("place()", x.place(), 2);
        linkFour(x, 1, 1);
        dueNone(x, 1, "O02 O02 O02 E E E N01 E", WRONG);
        Due.due("place()", x.place(), 6);
    }

    /** A query of FIRST codes, and the rest's codes behind them; with the NUMBER required the four OBJECTS are cut back. */
    private static QueryGraph longOne(boolean number, String rest) {
        QueryGraph x = rows(number, false, false);
        linkFour(x, 1, 2);
        if (number) {
            x.clear(2, 0);
        }
        Due.write(x, 1, TEN);
        Due.write(x, 2, rest);
        Due.write(x, 0, "O02 U1 E U2 E");
        return x;
    }

    private static void theCode121() {
        Due.sentence("LONG when the 121st code is to be worked out.");
        QueryGraph x = longOne(false, "K1 K2 K3 K4 K5 K6 K7 K8 K9 E");
        Due.due("ask(1)", x.ask(1), FIRST + 18);
        Due.write(x, 2, "O12 E O21 E O32 E E");
        Due.due("ask(1)", x.ask(1), FIRST + 11 + 2 + 11);
        Due.write(x, 2, "O12 E O21 E O32 E K4 E");
        Due.due("ask(1)", x.ask(1), 119);
        x.link(1, 1, 3);
        Due.due("ask(1)", x.ask(1), 120);
        Due.due("code(119)", x.code(119), 3);
        Due.due("code(120)", x.code(120), REFUSED);
        x.link(1, 3, 3);
        Due.write(x, 2, "O12 E O23 E O32 E K4 E");
        Due.due("ask(1)", x.ask(1), 120);
        Due.write(x, 2, "O12 E O21 E O32 E O43 E E");
        Due.dueNoAnswer(x, 1, LONG);
        Due.write(x, 2, "O12 E O21 E O32 E K4 K5 E");
        Due.dueNoAnswer(x, 1, LONG);
    }

    /** Each code is counted, of whatever sort it is. */
    private static void everyCodeCounts() {
        Due.sentence("LONG when the 121st code is to be worked out.");
        dueBehind115("K3 K4 E", 4);
        dueBehind115("N30 N40 E", 4);
        dueBehind115("O31 E O43 E E", 5);
        dueBehind115("O31 K4 E E", 5);
        dueBehind115("O31 N40 E E", 5);
        dueBehind115("O31 O43 E E E", 5);
        dueBehind115("K3 K4 K5 E", 6);
        dueBehind115("N30 N40 N50 E", 6);
        dueBehind115("O33 E O43 E O53 E E", 6);
        dueBehind115("O31 E O41 E E", 6);
        dueBehind115("O31 O42 E E E", 6);
        dueBehind115("K3 O41 K0 E E", 7);
    }

    /** Row 1 is linked to row 3 by field 1; nothing else is linked but for row 1's MANY. */
    private static void dueBehind115(String rest, int codes) {
        QueryGraph x = longOne(false, "O12 E O22 E U3 E");
        x.link(1, 1, 3);
        Due.write(x, 3, rest);
        Due.due("ask(1) with '" + rest + "'", x.ask(1), 115 + codes <= 120 ? 115 + codes : LONG);
    }

    private static void codesThatAreCutBackCount() {
        Due.sentence("those of an OBJECT that becomes nothing afterwards count");
        QueryGraph x = longOne(true, "O12 E O22 E K3 K4 E");
        Due.due("119 worked out", x.ask(1), 119 - 4 * 22 + 4);
        Due.due("places", x.count(3), 40);
        Due.write(x, 2, "O12 E O22 E K3 K4 K5 E");
        Due.dueNoAnswer(x, 1, LONG);
        // Also those of an OBJECT that makes the whole answer nothing.
        x.clear(1, 0);
        Due.write(x, 2, "O12 E O22 E N30 K4 E");
        Due.dueAnswerOfNothing(x, 1, 41);
        Due.write(x, 2, "O12 E O22 E N30 K4 K5 E");
        Due.dueNoAnswer(x, 1, LONG);
    }

    private static void theOneInItsPlace() {
        Due.sentence("the 1 in its place does not");
        // The LINK's OBJECT is 2, the NUMBER's two and 3: with its name 5, and 120 in all.
        QueryGraph x = longOne(true, "O12 E O22 E O31 N00 E E");
        x.link(1, 1, 2);
        Due.due("120 worked out", x.ask(1), 120 - 4 * 22 + 4 - 4 + 1);
        Due.due("places", x.count(3), 41);
        Due.write(x, 2, "O12 E O22 E O31 N00 N10 E E");
        Due.dueNoAnswer(x, 1, LONG);
        // 52 places, with LINK and MANY, and the outermost OBJECT cut back as well.
        x.clear(1, 0);
        Due.write(x, 2, "O11 U1 E N20 N30 E");
        Due.dueAnswerOfNothing(x, 1, 52);
        Due.write(x, 2, "O11 U1 E N20 N30 N40 E");
        Due.dueNoAnswer(x, 1, LONG);
    }

    private static void collectedBeforeItsTwo() {
        Due.sentence("an OBJECT is COLLECTED before its 2.");
        // 114 codes come before what is in text 3: the 2 of its last OBJECT is the 120th.
        QueryGraph x = longOne(false, "O12 E O22 E U3 E");
        x.link(1, 1, 3);
        Due.write(x, 3, "K3 K4 O51 K5 N50 E E");
        Due.dueNoAnswer(x, 1, CLASH);
        // The name is the 120th code, the 2 would be the 121st.
        Due.write(x, 3, "O31 E K4 O51 K5 N50 E E");
        Due.dueNoAnswer(x, 1, CLASH);
        Due.write(x, 3, "O31 E K4 O51 K5 E E");
        Due.dueNoAnswer(x, 1, LONG);
        // The name would be the 121st.
        Due.write(x, 3, "K3 K4 K5 O61 K5 N50 E E");
        Due.dueNoAnswer(x, 1, LONG);
    }

    private static void clashOrLongWhatComesFirst() {
        Due.sentence("The codes are worked out from left to right;");
        QueryGraph x = free();
        linkFour(x, 1, 1);
        x.link(1, 1, 2);
        dueNone(x, 1, "O02 O02 O02 E E E O11 K0 N00 E E", LONG);
        dueNone(x, 1, "O11 K0 N00 E O02 O02 O02 E E E E", CLASH);
        // The outermost OBJECT is COLLECTED before all.
        dueNone(x, 1, "O02 O02 O02 E E E K0 E", CLASH);
        dueNone(x, 1, "O02 O02 O02 E E K1 N10 E E", CLASH);
    }

    private static void noAnswerWithThese() {
        Due.sentence("With these there is no answer and nothing missing.");
        String[] queries = {"N01 E", "N00 O32 N00 K0 E E", "N00 O32 O32 O32 O32 E E E E E", "N00 O32 O32 O32 E E E E"};
        int[] answers = {WRONG, CLASH, WRONG, LONG};
        for (int i = 0; i < queries.length; i++) {
            QueryGraph x = rows(true, false, false);
            linkFour(x, 1, 1);
            x.clear(1, 0);
            dueAsk(x, 1, "K0 N10 O22 N00 E E", "1", "1 2.10.0 2.11.0 2.12.0 2.13.0");
            dueNone(x, 1, queries[i], answers[i]);
            dueAsk(x, 1, "K0 E", "2 10 2000 3", "");
            dueNone(x, 1, queries[i], answers[i]);
        }
    }

    private static void howManyCodes() {
        Due.sentence("Else how many codes the answer has.");
        QueryGraph x = rows(true, false, false);
        dueAsk(x, 1, "E", "2 3", "");
        dueAsk(x, 1, "N00 E", "2 10 1001 3", "");
        x.clear(1, 0);
        dueAsk(x, 1, "N00 E", "1", "0");
        x.link(2, 1, 1);
        dueAsk(x, 2, "O01 N00 K1 K2 K3 E E", "2 10 1 3", "0.0");
    }
}
