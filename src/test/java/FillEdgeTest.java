/** The boundary cases of promises 5 to 8, and of the terms on what rows hold, sentence by sentence. */
public final class FillEdgeTest {
    private static final int REFUSED = QueryGraph.REFUSED;
    private static final int FULL = QueryGraph.FULL;
    private static final String EMPTY = "2 10 1 11 1 12 4 5 13 4 5 3";

    public static void main(String[] args) {
        nothingAtFirst();
        aRowOrNothing();
        upToFourRows();
        numbersOfARow();
        rowAndFieldOfPut();
        onlyNumbersArePut();
        targetsOfLinks();
        rowFieldAndOtherOfLink();
        linkInPlace();
        fourOfMany();
        clearing();
        rowAndFieldOfClear();
        switches();
        noSuchSwitch();
        Due.end();
    }

    /**
     * Fields of type 0: NUMBER, LINK to 0, MANY of 0, MANY of any; of type 1: LINK to any. Rows 1 .. 11 are of type 0,
     * row 12 of type 1. Text 0 asks for all of type 0's fields, and KIND of what they are linked to.
     */
    private static QueryGraph twelve() {
        QueryGraph x = new QueryGraph();
        x.type();
        x.type();
        x.field(0, QueryGraph.NUMBER, 1, false);
        x.field(0, QueryGraph.LINK, 0, false);
        x.field(0, QueryGraph.MANY, 0, false);
        x.field(0, QueryGraph.MANY, 5, false);
        x.field(1, QueryGraph.LINK, 5, false);
        for (int row = 1; row <= 12; row++) {
            x.row(row == 12 ? 1 : 0);
        }
        Due.write(x, 0, "N00 O11 N00 E O22 N00 E O33 K0 E E");
        return x;
    }

    private static void nothingAtFirst() {
        Due.sentence("At first nothing and no rows.");
        QueryGraph x = twelve();
        for (int row = 1; row <= 11; row++) {
            Due.dueAnswer(x, row, EMPTY, "");
        }
        Due.write(x, 0, "O00 K0 E E");
        Due.dueAnswer(x, 12, "2 10 1 3", "");
    }

    private static void aRowOrNothing() {
        Due.sentence("LINK: a row or nothing;");
        QueryGraph x = twelve();
        Due.write(x, 0, "O11 K0 E E");
        Due.dueAnswer(x, 1, "2 11 1 3", "");
        x.link(1, 1, 1);
        Due.dueAnswer(x, 1, "2 11 2 10 2000 3 3", "");
        x.clear(1, 1);
        Due.dueAnswer(x, 1, "2 11 1 3", "");
    }

    private static void upToFourRows() {
        Due.sentence("MANY: up to four rows, in order.");
        QueryGraph x = twelve();
        Due.write(x, 0, "O33 K0 E E");
        Due.dueAnswer(x, 1, "2 13 4 5 3", "");
        int[] others = {12, 3, 12, 1};
        String objects = "";
        for (int i = 0; i < 4; i++) {
            Due.due("link", x.link(1, 3, others[i]), i + 1);
            objects += others[i] == 12 ? "2 10 2001 3 " : "2 10 2000 3 ";
            Due.dueAnswer(x, 1, "2 13 4 " + objects + "5 3", "");
        }
        Due.due("a fifth", x.link(1, 3, 2), FULL);
        Due.dueAnswer(x, 1, "2 13 4 " + objects + "5 3", "");
    }

    private static void numbersOfARow() {
        Due.sentence("NUMBER: a number 0 .. 999 or nothing;");
        QueryGraph x = twelve();
        Due.write(x, 0, "N00 E");
        for (int number : new int[] {0, 1, 998, 999}) {
            Due.due("put " + number, x.put(11, 0, number), 0);
            Due.dueAnswer(x, 11, "2 10 " + (1000 + number) + " 3", "");
        }
        for (int number : new int[] {-1, 1000, -999, Integer.MIN_VALUE, Integer.MAX_VALUE}) {
            Due.due("put " + number, x.put(11, 0, number), REFUSED);
        }
        Due.dueAnswer(x, 11, "2 10 1999 3", "");
        Due.due("put again", x.put(11, 0, 5), 0);
        Due.dueAnswer(x, 11, "2 10 1005 3", "");
        Due.dueAnswer(x, 10, "2 10 1 3", "");
    }

    private static void rowAndFieldOfPut() {
        Due.sentence("The row's field, a NUMBER (else REFUSED), gets a number 0 .. 999. 0.");
        QueryGraph x = twelve();
        for (int row : new int[] {0, 13, -1, Integer.MIN_VALUE, Integer.MAX_VALUE}) {
            Due.due("put into row " + row, x.put(row, 0, 1), REFUSED);
        }
        for (int field : new int[] {-1, 4, Integer.MIN_VALUE, Integer.MAX_VALUE}) {
            Due.due("put into field " + field, x.put(2, field, 1), REFUSED);
        }
        for (int row = 1; row <= 11; row++) {
            Due.dueAnswer(x, row, EMPTY, "");
        }
        Due.due("put into the first row", x.put(1, 0, 1), 0);
        Due.due("put into the last row that has the field", x.put(11, 0, 11), 0);
        Due.dueAnswer(x, 1, EMPTY.replaceFirst("10 1 ", "10 1001 "), "");
        Due.dueAnswer(x, 11, EMPTY.replaceFirst("10 1 ", "10 1011 "), "");
    }

    private static void onlyNumbersArePut() {
        Due.sentence("The row's field, a NUMBER (else REFUSED), gets a number 0 .. 999. 0.");
        QueryGraph x = twelve();
        for (int field = 1; field <= 3; field++) {
            Due.due("put into field " + field, x.put(1, field, 1), REFUSED);
        }
        Due.due("put into a LINK of the other type", x.put(12, 0, 1), REFUSED);
        Due.due("put into a field that only the other type has", x.put(12, 1, 1), REFUSED);
        Due.dueAnswer(x, 1, EMPTY, "");
    }

    private static void targetsOfLinks() {
        Due.sentence("a LINK or MANY with the other row's type or 5 as its target (else REFUSED)");
        QueryGraph x = twelve();
        Due.due("a NUMBER, though its target is the other's type", x.link(1, 0, 12), REFUSED);
        Due.due("a NUMBER", x.link(1, 0, 2), REFUSED);
        Due.due("a LINK to 0 and a row of 1", x.link(1, 1, 12), REFUSED);
        Due.due("a MANY of 0 and a row of 1", x.link(1, 2, 12), REFUSED);
        Due.dueAnswer(x, 1, EMPTY, "");
        Due.due("a LINK to 0 and a row of 0", x.link(1, 1, 11), 1);
        Due.due("a MANY of 0 and a row of 0", x.link(1, 2, 11), 1);
        Due.due("a MANY of any and a row of 0", x.link(1, 3, 11), 1);
        Due.due("a MANY of any and a row of 1", x.link(1, 3, 12), 2);
        Due.due("a LINK to any and a row of 0", x.link(12, 0, 1), 1);
        Due.due("a LINK to any and a row of 1, itself", x.link(12, 0, 12), 1);
        Due.dueAnswer(x, 1, "2 10 1 11 2 10 1 3 12 4 2 10 1 3 5 13 4 2 10 2000 3 2 10 2001 3 5 3", "");
    }

    private static void rowFieldAndOtherOfLink() {
        Due.sentence("Numbers out of range are tested first: REFUSED.");
        QueryGraph x = twelve();
        for (int row : new int[] {0, 13, -1, Integer.MIN_VALUE, Integer.MAX_VALUE}) {
            Due.due("link from row " + row, x.link(row, 1, 1), REFUSED);
            Due.due("link to row " + row, x.link(1, 1, row), REFUSED);
            Due.due("link to row " + row + " by a MANY of any", x.link(1, 3, row), REFUSED);
        }
        for (int field : new int[] {-1, 4, Integer.MIN_VALUE, Integer.MAX_VALUE}) {
            Due.due("link in field " + field, x.link(1, field, 1), REFUSED);
        }
        Due.due("link in a field that only the other type has", x.link(12, 1, 1), REFUSED);
        for (int row = 1; row <= 11; row++) {
            Due.dueAnswer(x, row, EMPTY, "");
        }
    }

    private static void linkInPlace() {
        Due.sentence("LINK in place of what was there, MANY at the end; four there: FULL. How many it has.");
        QueryGraph x = twelve();
        for (int other = 1; other <= 11; other++) {
            x.put(other, 0, other);
            Due.due("link to " + other, x.link(1, 1, other), 1);
            Due.dueAnswer(x, 1, "2 10 1001 11 2 10 " + (1000 + other) + " 3 12 4 5 13 4 5 3", "");
        }
        Due.due("a row of the wrong type", x.link(1, 1, 12), REFUSED);
        Due.dueAnswer(x, 1, "2 10 1001 11 2 10 1011 3 12 4 5 13 4 5 3", "");
    }

    private static void fourOfMany() {
        Due.sentence("LINK in place of what was there, MANY at the end; four there: FULL. How many it has.");
        QueryGraph x = twelve();
        Due.write(x, 0, "O22 N00 E E");
        String objects = "";
        for (int i = 1; i <= 4; i++) {
            int other = 12 - i;
            x.put(other, 0, other);
            Due.due("link to " + other, x.link(11, 2, other), i);
            objects += "2 10 " + (1000 + other) + " 3 ";
            Due.dueAnswer(x, 11, "2 12 4 " + objects + "5 3", "");
        }
        Due.due("a fifth", x.link(11, 2, 1), FULL);
        Due.due("a fifth that is there already", x.link(11, 2, 11), FULL);
        Due.due("a fifth of the wrong type", x.link(11, 2, 12), REFUSED);
        Due.due("a fifth that there is not", x.link(11, 2, 13), REFUSED);
        Due.dueAnswer(x, 11, "2 12 4 " + objects + "5 3", "");
        Due.due("the row's other MANY", x.link(11, 3, 12), 1);
        Due.due("the MANY of the row before", x.link(10, 2, 1), 1);
        Due.dueAnswer(x, 11, "2 12 4 " + objects + "5 3", "");
    }

    private static void clearing() {
        Due.sentence("The row's field has nothing, or no rows. 0.");
        QueryGraph x = twelve();
        for (int field = 0; field <= 3; field++) {
            Due.due("clear field " + field + ", which has nothing", x.clear(11, field), 0);
        }
        Due.dueAnswer(x, 11, EMPTY, "");
        for (int times = 0; times < 2; times++) {
            Due.due("put", x.put(11, 0, 0), 0);
            Due.due("link", x.link(11, 1, 1), 1);
            for (int i = 1; i <= 4; i++) {
                Due.due("link", x.link(11, 2, i), i);
                Due.due("link", x.link(11, 3, 12), i);
            }
            Due.due("a fifth", x.link(11, 2, 5), FULL);
            Due.due("count of codes", x.ask(11), 2 + 2 + 5 + 3 + 4 * 4 + 3 + 4 * 4);
            for (int field = 0; field <= 3; field++) {
                Due.due("clear field " + field, x.clear(11, field), 0);
            }
            Due.dueAnswer(x, 11, EMPTY, "");
        }
    }

    private static void rowAndFieldOfClear() {
        Due.sentence("Numbers out of range are tested first: REFUSED.");
        QueryGraph x = twelve();
        x.put(1, 0, 7);
        x.put(11, 0, 8);
        x.link(12, 0, 1);
        for (int row : new int[] {0, 13, -1, Integer.MIN_VALUE, Integer.MAX_VALUE}) {
            Due.due("clear in row " + row, x.clear(row, 0), REFUSED);
        }
        for (int field : new int[] {-1, 4, Integer.MIN_VALUE, Integer.MAX_VALUE}) {
            Due.due("clear field " + field, x.clear(1, field), REFUSED);
        }
        Due.due("clear a field that only the other type has", x.clear(12, 1), REFUSED);
        Due.write(x, 0, "N00 E");
        Due.dueAnswer(x, 1, "2 10 1007 3", "");
        Due.dueAnswer(x, 11, "2 10 1008 3", "");
        Due.write(x, 0, "O00 K0 E E");
        Due.dueAnswer(x, 12, "2 10 2 10 2000 3 3", "");
    }

    private static void switches() {
        Due.sentence("The switch 0 .. 3 is 0 (at first) or 1. 0.");
        for (int which = 0; which <= 3; which++) {
            QueryGraph x = twelve();
            Due.write(x, 0, "I01 K0 E I11 K1 E I21 K2 E I31 K3 E I" + which + "0 K9 E E");
            Due.dueAnswer(x, 1, "2 19 2000 3", "");
            Due.due("set(" + which + ", 0)", x.set(which, 0), 0);
            Due.dueAnswer(x, 1, "2 19 2000 3", "");
            Due.due("set(" + which + ", 1)", x.set(which, 1), 0);
            Due.dueAnswer(x, 1, "2 " + (10 + which) + " 2000 3", "");
            Due.due("set(" + which + ", 1) again", x.set(which, 1), 0);
            Due.dueAnswer(x, 1, "2 " + (10 + which) + " 2000 3", "");
            Due.due("set(" + which + ", 0)", x.set(which, 0), 0);
            Due.dueAnswer(x, 1, "2 19 2000 3", "");
        }
    }

    private static void noSuchSwitch() {
        Due.sentence("The switch 0 .. 3 is 0 (at first) or 1. 0.");
        QueryGraph x = twelve();
        Due.write(x, 0, "I01 K0 E I11 K1 E I21 K2 E I31 K3 E E");
        x.set(0, 1);
        x.set(3, 1);
        for (int n : new int[] {-1, 4, 5, Integer.MIN_VALUE, Integer.MAX_VALUE}) {
            Due.due("set(" + n + ", 0)", x.set(n, 0), REFUSED);
            Due.due("set(" + n + ", 1)", x.set(n, 1), REFUSED);
        }
        for (int n : new int[] {-1, 2, Integer.MIN_VALUE, Integer.MAX_VALUE}) {
            Due.due("set(0, " + n + ")", x.set(0, n), REFUSED);
            Due.due("set(3, " + n + ")", x.set(3, n), REFUSED);
            Due.due("set(1, " + n + ")", x.set(1, n), REFUSED);
        }
        Due.dueAnswer(x, 1, "2 10 2000 13 2000 3", "");
    }
}
