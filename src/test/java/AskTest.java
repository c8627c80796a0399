/** Promise 13: ask, with what the terms say of COLLECT, OBJECT, MISSING and ANSWER. */
public final class AskTest {
    private static final int REFUSED = QueryGraph.REFUSED;
    private static final int CLASH = QueryGraph.CLASH;
    private static final int LONG = QueryGraph.LONG;

    public static void main(String[] args) {
        entriesInOrder();
        conditions();
        merging();
        clashes();
        clashOnlyWhereCollected();
        requiredNumbers();
        requiredLinks();
        requiredMany();
        cutBackGoesOutward();
        allIsWorkedOut();
        deepFragments();
        longAnswers();
        cutBackCodesCount();
        clashBeforeLong();
        refusedChangesNothing();
        Due.end();
    }

    /** Type 0: NUMBER, LINK to 0, MANY of 0, LINK to any; nothing required. Rows 1 .. 4, with the numbers 1 .. 4. */
    private static QueryGraph plain() {
        return withRequired(false, false, false, 5);
    }

    private static QueryGraph withRequired(boolean number, boolean link, boolean many, int target) {
        QueryGraph x = new QueryGraph();
        x.type();
        x.type();
        x.field(0, QueryGraph.NUMBER, 0, number);
        x.field(0, QueryGraph.LINK, 0, link);
        x.field(0, QueryGraph.MANY, 0, many);
        x.field(0, QueryGraph.LINK, target, false);
        x.field(1, QueryGraph.NUMBER, 0, number);
        for (int row = 1; row <= 4; row++) {
            x.row(0);
            x.put(row, 0, row);
        }
        x.row(1);
        x.put(5, 0, 5);
        return x;
    }

    private static void entriesInOrder() {
        QueryGraph x = plain();
        Due.write(x, 0, "E");
        Due.dueAnswer(x, 1, "2 3", "");
        Due.write(x, 0, "K9 N30 N10 K0 N80 E");
        Due.dueAnswer(x, 2, "2 19 2000 13 1002 11 1002 10 2000 18 1002 3", "");
        x.link(1, 1, 2);
        x.link(1, 2, 3);
        x.link(1, 2, 4);
        x.link(2, 1, 1);
        Due.write(x, 0, "O52 N00 E O41 O41 N00 E N00 E O02 E E");
        Due.dueAnswer(x, 1, "2 15 4 2 10 1003 3 2 10 1004 3 5 14 2 14 2 10 1001 3 10 1002 3 10 4 2 3 2 3 5 3", "");
    }

    private static void conditions() {
        QueryGraph x = plain();
        x.link(1, 3, 5);
        x.link(2, 3, 3);
        Due.write(x, 0, "T0 K0 E O33 T0 N10 K2 E T1 N40 E U1 E E");
        Due.write(x, 1, "I00 T1 N50 E E I01 K6 E E");
        Due.dueAnswer(x, 1, "2 10 2000 13 2 14 1005 15 1005 3 3", "");
        Due.dueAnswer(x, 2, "2 10 2000 13 2 11 1003 12 2000 3 3", "");
        x.set(0, 1);
        Due.dueAnswer(x, 1, "2 10 2000 13 2 14 1005 16 2001 3 3", "");
        Due.write(x, 0, "I00 I01 K0 E E I01 K1 I00 K2 E K3 E K4 E");
        Due.dueAnswer(x, 1, "2 11 2000 13 2000 14 2000 3", "");
    }

    private static void merging() {
        QueryGraph x = plain();
        x.link(1, 1, 2);
        x.link(2, 1, 3);
        Due.write(x, 0, "N00 N00 K1 K1 N00 E");
        Due.dueAnswer(x, 1, "2 10 1001 11 2000 3", "");
        Due.write(x, 0, "O11 N00 E K0 O11 K2 N00 E E");
        Due.dueAnswer(x, 1, "2 11 2 10 1002 12 2000 3 10 2000 3", "");
        Due.write(x, 0, "O11 O21 N00 E E U1 T0 I00 O11 N50 E E E E");
        Due.write(x, 1, "O11 O21 K1 U2 E K4 E E");
        Due.write(x, 2, "N30 E");
        Due.dueAnswer(x, 1, "2 11 2 12 2 10 1003 11 2000 13 1003 3 14 2000 15 1002 3 3", "");
        x.set(0, 1);
        Due.dueAnswer(x, 1, "2 11 2 12 2 10 1003 11 2000 13 1003 3 14 2000 3 3", "");
        x.link(1, 2, 3);
        x.link(1, 2, 4);
        Due.write(x, 0, "O12 K0 E O12 N10 E O12 K0 E E");
        Due.dueAnswer(x, 1, "2 11 4 2 10 2000 11 1003 3 2 10 2000 11 1004 3 5 3", "");
        Due.write(x, 0, "U1 U1 E");
        Due.write(x, 1, "O11 O11 K0 E E E");
        Due.dueAnswer(x, 1, "2 11 2 11 2 10 2000 3 3 3", "");
    }

    private static void dueClash(QueryGraph x, String query) {
        Due.write(x, 0, query);
        Due.dueNoAnswer(x, 1, CLASH);
    }

    private static void clashes() {
        QueryGraph x = plain();
        x.link(1, 1, 2);
        x.link(1, 3, 2);
        dueClash(x, "K0 N00 E");
        dueClash(x, "N00 K0 E");
        dueClash(x, "O01 E K0 E");
        dueClash(x, "K0 O01 E E");
        dueClash(x, "O01 E O02 E E");
        dueClash(x, "O01 E O03 E E");
        dueClash(x, "N00 O01 E E");
        dueClash(x, "O01 N00 K0 E E");
        dueClash(x, "O01 N00 E O01 K0 E E");
        dueClash(x, "N00 I00 T0 K0 E E E");
        Due.write(x, 1, "O01 K0 E E");
        dueClash(x, "O01 N00 E U1 E");

        QueryGraph y = new QueryGraph();
        y.type();
        y.field(0, QueryGraph.NUMBER, 0, false);
        y.field(0, QueryGraph.NUMBER, 0, false);
        y.row(0);
        dueClash(y, "N00 N01 E");
        Due.write(y, 0, "N00 N11 E");
        Due.dueAnswer(y, 1, "2 10 1 11 1 3", "");
    }

    private static void clashOnlyWhereCollected() {
        QueryGraph x = plain();
        Due.write(x, 0, "I01 N00 E K0 E");
        Due.dueAnswer(x, 1, "2 10 2000 3", "");
        x.set(0, 1);
        Due.dueNoAnswer(x, 1, CLASH);
        Due.write(x, 0, "O03 T0 N00 E T1 K0 E E E");
        x.link(1, 3, 5);
        Due.dueAnswer(x, 1, "2 10 2 10 2001 3 3", "");
        Due.write(x, 0, "O01 N00 K0 E O12 N00 K0 E E");
        Due.dueAnswer(x, 1, "2 10 1 11 4 5 3", "");
        x.link(1, 2, 2);
        Due.dueNoAnswer(x, 1, CLASH);
    }

    private static void requiredNumbers() {
        QueryGraph x = withRequired(true, false, false, 5);
        Due.write(x, 0, "N00 E");
        Due.dueAnswer(x, 1, "2 10 1001 3", "");
        x.clear(1, 0);
        Due.dueAnswer(x, 1, "1", "0");
        Due.write(x, 0, "K0 N30 N20 N30 E");
        Due.dueAnswer(x, 1, "1", "3 2");
        Due.write(x, 0, "K0 E");
        Due.dueAnswer(x, 1, "2 10 2000 3", "");
        Due.write(x, 0, "I01 N00 E E");
        Due.dueAnswer(x, 1, "2 3", "");
        x.link(2, 1, 1);
        Due.write(x, 0, "K0 O11 N00 E K2 E");
        Due.dueAnswer(x, 2, "2 10 2000 11 1 12 2000 3", "1.0");
        QueryGraph y = plain();
        y.clear(1, 0);
        Due.write(y, 0, "N00 E");
        Due.dueAnswer(y, 1, "2 10 1 3", "");
    }

    private static void requiredLinks() {
        QueryGraph x = withRequired(true, true, false, 5);
        Due.write(x, 0, "K1 O41 K0 E E");
        Due.dueAnswer(x, 1, "1", "4");
        x.link(1, 1, 2);
        Due.dueAnswer(x, 1, "2 11 2000 14 2 10 2000 3 3", "");
        Due.write(x, 0, "K1 O41 N00 E E");
        x.clear(2, 0);
        Due.dueAnswer(x, 1, "1", "4.0");
        Due.write(x, 0, "O41 O51 E E E");
        Due.dueAnswer(x, 1, "1", "4.5");
        Due.write(x, 0, "O33 T0 O41 E E E K0 E");
        x.link(3, 3, 1);
        x.clear(1, 1);
        Due.dueAnswer(x, 3, "2 13 1 10 2000 3", "3.4");
    }

    private static void requiredMany() {
        QueryGraph x = withRequired(true, false, true, 5);
        Due.write(x, 0, "K1 O42 N00 E E");
        Due.dueAnswer(x, 1, "2 11 2000 14 4 5 3", "");
        x.link(1, 2, 2);
        x.link(1, 2, 3);
        x.link(1, 2, 4);
        Due.dueAnswer(x, 1, "2 11 2000 14 4 2 10 1002 3 2 10 1003 3 2 10 1004 3 5 3", "");
        x.clear(3, 0);
        Due.dueAnswer(x, 1, "1", "4.11.0");
        x.clear(2, 0);
        Due.dueAnswer(x, 1, "1", "4.10.0 4.11.0");
        QueryGraph y = withRequired(true, false, false, 5);
        y.link(1, 2, 2);
        y.link(1, 2, 3);
        y.link(1, 2, 2);
        y.link(1, 2, 4);
        y.clear(2, 0);
        Due.write(y, 0, "K1 O42 K7 N00 K8 E E");
        Due.dueAnswer(y, 1, "2 11 2000 14 4 1 2 17 2000 10 1003 18 2000 3 1 2 17 2000 10 1004 18 2000 3 5 3",
            "4.10.0 4.12.0");
    }

    private static void cutBackGoesOutward() {
        QueryGraph x = withRequired(true, true, true, 5);
        x.link(1, 3, 2);
        x.link(2, 2, 3);
        x.link(3, 1, 4);
        x.clear(4, 0);
        Due.write(x, 1, "O22 O31 N40 E E E");
        Due.write(x, 0, "N00 O13 T0 N00 U1 E E N50 E");
        Due.dueAnswer(x, 1, "2 10 1001 11 1 15 1001 3", "1.2.10.3.4");
        x.put(4, 0, 0);
        Due.dueAnswer(x, 1, "2 10 1001 11 2 10 1002 12 4 2 13 2 14 1000 3 3 5 3 15 1001 3", "");
    }

    private static void allIsWorkedOut() {
        QueryGraph x = withRequired(true, true, true, 5);
        x.clear(1, 0);
        x.link(1, 2, 2);
        x.link(1, 2, 3);
        x.clear(2, 0);
        x.clear(3, 0);
        Due.write(x, 0, "N00 O11 K0 E O22 N30 O41 E E N50 E");
        Due.dueAnswer(x, 1, "1", "0 1 2.10.3 2.10.4 2.11.3 2.11.4 5");
        Due.write(x, 0, "N00 O22 N30 K3 E E");
        Due.dueNoAnswer(x, 1, CLASH);
    }

    /** Three OBJECTS in each of the four texts, one in the other, all MANY. */
    private static void deepFragments() {
        QueryGraph x = withRequired(true, false, false, 5);
        x.link(1, 2, 1);
        x.clear(1, 0);
        Due.write(x, 0, "O12 O22 O32 U1 E E E E");
        Due.write(x, 1, "O42 O52 O62 U2 E E E E");
        Due.write(x, 2, "O72 O82 O92 U3 E E E E");
        Due.write(x, 3, "O12 O22 O32 N00 E E E E");
        Due.dueAnswer(x, 1,
            "2 11 4 2 12 4 2 13 4 2 14 4 2 15 4 2 16 4 2 17 4 2 18 4 2 19 4 2 11 4 2 12 4 2 13 4 1 "
                + "5 3 5 3 5 3 5 3 5 3 5 3 5 3 5 3 5 3 5 3 5 3 5 3",
            "1.10.2.10.3.10.4.10.5.10.6.10.7.10.8.10.9.10.1.10.2.10.3.10.0");
    }

    /** Row 1 has itself four times as MANY, so that answers grow fast. */
    private static QueryGraph bushy(boolean number) {
        QueryGraph x = withRequired(number, false, false, 5);
        for (int i = 0; i < 4; i++) {
            x.link(1, 2, 1);
        }
        return x;
    }

    private static void longAnswers() {
        QueryGraph x = bushy(false);
        Due.write(x, 0, "O02 O02 N00 E E E");
        Due.due("89 codes", x.ask(1), 5 + 4 * (5 + 4 * 4));
        Due.write(x, 0, "O02 O02 N00 E E K1 N20 N30 N40 K5 K6 K7 K8 K9 E");
        Due.due("107 codes", x.ask(1), 107);
        Due.write(x, 0, "O02 O02 N00 N10 E E E");
        Due.dueNoAnswer(x, 1, LONG);
        Due.write(x, 0, "O02 O02 E E O12 E K2 K3 K4 K5 K6 K7 K8 K9 E");
        Due.due("84 codes", x.ask(1), 5 + 4 * (5 + 4 * 2) + 3 + 8 + 16);
        // 57 codes for O02, then each further MANY of empty OBJECTS is 11 and each KIND 2.
        Due.write(x, 0, "O02 O02 E E O12 K0 E O22 E O32 E K4 K5 E");
        Due.due("102 codes", x.ask(1), 57 + 19 + 11 + 11 + 4);
        Due.write(x, 0, "O02 O02 E K9 E O12 K0 E O22 E O32 E K4 K5 E");
        Due.due("110 codes", x.ask(1), 110);
        Due.write(x, 0, "O02 O02 E K9 E O12 K0 E O22 E U1 E");
        Due.write(x, 1, "O32 E K4 K5 K6 K7 K8 K9 E");
        Due.due("118 codes", x.ask(1), 118);
        Due.write(x, 1, "O32 E O42 E K6 N70 E");
        Due.dueNoAnswer(x, 1, LONG);
        Due.write(x, 1, "O32 E K4 K5 K6 K7 K8 O93 E E");
        Due.due("118 codes", x.ask(1), 118);
        x.link(1, 3, 5);
        Due.due("119 codes", x.ask(1), 119);
        Due.write(x, 1, "O32 E K4 K5 K6 K7 O83 E O93 E E");
        Due.due("120 codes", x.ask(1), 120);
        Due.due("code(119)", x.code(119), 3);
        Due.due("code(120)", x.code(120), REFUSED);
        Due.write(x, 1, "O32 E K4 K5 K6 O73 E O83 E O93 E E");
        Due.dueNoAnswer(x, 1, LONG);
    }

    private static void cutBackCodesCount() {
        QueryGraph x = withRequired(true, false, false, 5);
        x.link(1, 2, 2);
        x.link(1, 2, 2);
        x.link(1, 2, 2);
        x.link(1, 2, 2);
        x.clear(2, 0);
        Due.write(x, 1, "N00 N10 N20 N30 N40 N50 N60 N70 N80 N90 E");
        Due.write(x, 0, "O02 U1 E K1 K2 K3 K4 K5 K6 K7 K8 K9 E");
        Due.due("22 codes for each of four, 88 in all, 5 around, 18: 111", x.ask(1), 5 + 4 + 18);
        Due.due("places", x.count(3), 40);
        Due.write(x, 0, "O02 U1 E O12 E K2 K3 K4 K5 K6 K7 K8 E");
        Due.due("118 worked out", x.ask(1), 5 + 4 + 11 + 14);
        Due.write(x, 0, "O02 U1 E O12 E K2 K3 K4 K5 K6 K7 K8 K9 E");
        Due.due("120 worked out", x.ask(1), 5 + 4 + 11 + 16);
        Due.write(x, 0, "O02 U1 E O12 E K2 K3 K4 K5 K6 K7 O83 E K9 E");
        Due.due("120 worked out, one of them a LINK's nothing", x.ask(1), 5 + 4 + 11 + 16);
        x.link(1, 3, 5);
        Due.dueNoAnswer(x, 1, LONG);
        // An OBJECT that becomes nothing has all its codes counted, its 3 too, and its 1 is not one more.
        Due.write(x, 0, "O02 U1 E O13 T1 N00 E E O23 T1 N00 E E U2 E");
        Due.write(x, 2, "K3 K4 K5 K6 K7 K8 E");
        x.clear(5, 0);
        Due.due("88 + 5 + 2 * 5 + 12 worked out", x.ask(1), 5 + 4 + 4 + 12);
        Due.due("places", x.count(3), 42);
        Due.write(x, 2, "K3 K4 K5 K6 K7 K8 K9 E");
        Due.due("117 worked out", x.ask(1), 5 + 4 + 4 + 14);
        Due.write(x, 2, "K3 K4 K5 K6 K7 O83 T1 N00 E E E");
        Due.due("118 worked out", x.ask(1), 5 + 4 + 6 + 10);
        Due.write(x, 2, "K3 K4 K5 K6 K7 K8 O93 T1 N00 E E E");
        Due.due("120 worked out", x.ask(1), 5 + 4 + 6 + 12);
        Due.write(x, 2, "K3 K4 K5 K6 K7 O83 T1 N00 E E O93 T1 N00 E E E");
        Due.dueNoAnswer(x, 1, LONG);
    }

    private static void clashBeforeLong() {
        QueryGraph x = bushy(false);
        x.link(1, 1, 2);
        Due.write(x, 1, "O32 E K4 K5 K6 K7 K8 O91 N00 K0 E E");
        Due.write(x, 0, "O02 O02 E K9 E O12 K0 E O22 E U1 E");
        Due.dueNoAnswer(x, 1, CLASH);
        // The 2 of the last OBJECT would be the 121st code, and it is COLLECTED before.
        Due.write(x, 1, "O32 E K4 O51 E O61 E O71 E O81 E U2 E");
        Due.write(x, 2, "O91 N00 K0 E E");
        Due.dueNoAnswer(x, 1, CLASH);
        Due.write(x, 2, "O91 E E");
        Due.dueNoAnswer(x, 1, LONG);
        // The name would be the 121st, so what is behind it is not COLLECTED any more.
        Due.write(x, 1, "O32 E O41 E O51 E O61 E O71 E O81 E U2 E");
        Due.write(x, 2, "O91 N00 K0 E E");
        Due.dueNoAnswer(x, 1, LONG);
    }

    private static void refusedChangesNothing() {
        QueryGraph x = withRequired(true, false, false, 5);
        x.link(1, 1, 2);
        x.clear(2, 0);
        Due.write(x, 0, "K0 O11 N00 E E");
        Due.dueAnswer(x, 1, "2 10 2000 11 1 3", "1.0");
        for (int row : new int[] {0, 6, 13, -1, Integer.MIN_VALUE, Integer.MAX_VALUE}) {
            Due.due("ask(" + row + ")", x.ask(row), REFUSED);
            Due.due("codes", Due.codes(x), "2 10 2000 11 1 3");
            Due.due("places", Due.places(x), "1.0");
        }
        Due.dueNoAnswer(x, 5, QueryGraph.WRONG);
        Due.due("place()", x.place(), 1);
    }
}
