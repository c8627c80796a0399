/** All that an object tells of its state, so that two objects can be compared. */
final class Portrait {
    private static final String SWITCHES = "I01 K0 E I11 K1 E I21 K2 E I31 K3 E E";

    private Portrait() {
    }

    /** What can be read without a change. */
    static String outside(QueryGraph x) {
        StringBuilder all = new StringBuilder("counts");
        for (int what = 0; what <= 7; what++) {
            all.append(" ").append(x.count(what));
        }
        all.append(" place ").append(x.place());
        all.append(" codes ").append(Due.codes(x));
        all.append(" places ").append(Due.places(x));
        return all.toString();
    }

    /** The outside, and what asking brings out of the texts, the rows and the switches; the object is used up by it. */
    static String whole(QueryGraph x) {
        StringBuilder all = new StringBuilder(outside(x));
        for (int type = 0; type < 5; type++) {
            all.append("\n check ").append(type).append(": ").append(x.check(type)).append(" at ").append(x.place());
        }
        for (int row = 1; row <= x.count(1); row++) {
            all.append("\n ask ").append(row).append(": ").append(x.ask(row)).append(" ").append(outside(x));
        }
        tellFields(x, all);
        Due.write(x, 0, SWITCHES);
        x.row(0);
        all.append("\n switches ").append(x.ask(1)).append(" ").append(Due.codes(x));
        return all.toString();
    }

    /** Asks each field by itself, once as a NUMBER and once as an OBJECT; the one that does not fit is WRONG. */
    private static void tellFields(QueryGraph x, StringBuilder all) {
        for (int row = 1; row <= x.count(1); row++) {
            for (int field = 0; field < 4; field++) {
                for (String query : new String[] {"N0" + field + " E", "O0" + field + " K0 E E"}) {
                    Due.write(x, 0, query);
                    all.append("\n ").append(query).append(" of ").append(row).append(": ").append(x.ask(row));
                    all.append(" ").append(Due.codes(x)).append(" places ").append(Due.places(x));
                }
            }
        }
    }
}
