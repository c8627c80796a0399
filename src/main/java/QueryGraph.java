/** Queries over rows that are linked to each other; README.md tells how it is used. */
public final class QueryGraph {
    public static final int REFUSED = -1;
    public static final int FULL = -2;
    public static final int WRONG = -3;
    public static final int CLASH = -4;
    public static final int LONG = -5;
    public static final int NUMBER = 0;
    public static final int LINK = 1;
    public static final int MANY = 2;

    private static final int MOST_TYPES = 5;
    private static final int ANY_TYPE = 5;
    private static final int MOST_FIELDS = 4;
    private static final int MOST_ROWS = 12;
    private static final int MOST_LINKED = 4;
    private static final int BIGGEST_NUMBER = 999;
    private static final int SWITCHES = 4;
    private static final int NAMES = 10;

    private static final int TEXTS = 4;
    private static final int MOST_TOKENS = 16;
    private static final int MOST_SETS = 4;
    private static final int MOST_STEPS = 60;

    private static final int OP_NUMBER = 0;
    private static final int OP_OBJECT = 1;
    private static final int OP_KIND = 2;
    private static final int OP_ON = 3;
    private static final int OP_IF = 4;
    private static final int OP_USE = 5;
    private static final int OP_END = 6;

    private static final int MOST_CODES = 120;
    private static final int CODE_NOTHING = 1;
    private static final int CODE_OBJECT = 2;
    private static final int CODE_OBJECT_END = 3;
    private static final int CODE_MANY = 4;
    private static final int CODE_MANY_END = 5;
    private static final int CODE_NAME = 10;
    private static final int CODE_NUMBER = 1000;
    private static final int CODE_KIND = 2000;

    /** Four texts with three OBJECTS in one another each, and the OBJECT of the row that is asked. */
    private static final int MOST_OBJECTS_DEEP = 13;
    /** A name and a number for each OBJECT around it, and its own name. */
    private static final int MOST_PARTS = 2 * MOST_OBJECTS_DEEP;
    /** Every place that is noted has used up two codes, its name and its 1. */
    private static final int MOST_PLACES = MOST_CODES / 2;
    private static final int PLACE_NUMBER = 10;

    private static final int NO_FIELD = -1;
    private static final int NO_NUMBER = -1;
    private static final int NOWHERE = -1;

    private final Schema schema;
    private final Rows rows;
    private final Texts texts;
    private final int[] switches;
    private final Plan plan;
    private final Asking asking;

    public QueryGraph() {
        schema = new Schema();
        rows = new Rows();
        texts = new Texts();
        switches = new int[SWITCHES];
        plan = new Plan(schema, texts);
        asking = new Asking(rows, new Collector(plan, switches));
    }

    public int type() {
        if (schema.typeCount >= MOST_TYPES || rows.rowCount > 0) {
            return FULL;
        }
        return schema.addType();
    }

    public int field(int type, int kind, int target, boolean required) {
        if (!schema.hasType(type) || !isWithin(kind, NUMBER, MANY) || !isWithin(target, 0, ANY_TYPE)) {
            return REFUSED;
        }
        if (kind != NUMBER && target != ANY_TYPE && !schema.hasType(target)) {
            return REFUSED;
        }
        if (rows.rowCount > 0 || schema.fieldCounts[type] >= MOST_FIELDS) {
            return FULL;
        }
        return schema.addField(type, kind, target, required);
    }

    public int row(int type) {
        if (!schema.hasType(type)) {
            return REFUSED;
        }
        if (rows.rowCount >= MOST_ROWS) {
            return FULL;
        }
        return rows.addRow(type);
    }

    public int put(int row, int field, int number) {
        if (kindIn(row, field) != NUMBER || !isWithin(number, 0, BIGGEST_NUMBER)) {
            return REFUSED;
        }
        rows.holdNumber(row, field, number);
        return 0;
    }

    public int link(int row, int field, int other) {
        int kind = kindIn(row, field);
        if ((kind != LINK && kind != MANY) || !rows.hasRow(other)) {
            return REFUSED;
        }
        int target = schema.targetOf(rows.typeOf(row), field);
        if (target != ANY_TYPE && target != rows.typeOf(other)) {
            return REFUSED;
        }
        if (kind == LINK) {
            rows.emptyField(row, field);
        }
        if (rows.linkedCount(row, field) >= MOST_LINKED) {
            return FULL;
        }
        return rows.addLinked(row, field, other);
    }

    public int clear(int row, int field) {
        if (kindIn(row, field) == NO_FIELD) {
            return REFUSED;
        }
        rows.emptyField(row, field);
        return 0;
    }

    public int set(int which, int value) {
        if (!isWithin(which, 0, SWITCHES - 1) || !isWithin(value, 0, 1)) {
            return REFUSED;
        }
        switches[which] = value;
        return 0;
    }

    public int token(int text, int op, int a, int b) {
        if (!isWithin(text, 0, TEXTS - 1) || !isTokenInRange(op, a, b)) {
            return REFUSED;
        }
        if (texts.lengths[text] >= MOST_TOKENS) {
            return FULL;
        }
        return texts.addToken(text, op, a, b);
    }

    public int wipe(int text) {
        if (!isWithin(text, 0, TEXTS - 1)) {
            return REFUSED;
        }
        int had = texts.lengths[text];
        texts.lengths[text] = 0;
        return had;
    }

    public int check(int type) {
        if (!schema.hasType(type)) {
            return REFUSED;
        }
        return plan.writeOutQuery(type) ? 0 : WRONG;
    }

    public int place() {
        return plan.wrongPlace == NOWHERE ? REFUSED : plan.wrongPlace;
    }

    public int ask(int row) {
        if (!rows.hasRow(row)) {
            return REFUSED;
        }
        if (!plan.writeOutQuery(rows.typeOf(row))) {
            asking.forget();
            return WRONG;
        }
        return asking.answer(row, plan.root());
    }

    public int code(int i) {
        return isWithin(i, 0, asking.codeCount - 1) ? asking.codes[i] : REFUSED;
    }

    public int missing(int k, int i) {
        return asking.places.partOf(k, i);
    }

    public int count(int what) {
        switch (what) {
            case 0:
                return schema.typeCount;
            case 1:
                return rows.rowCount;
            case 2:
                return asking.codeCount;
            case 3:
                return asking.places.placeCount;
            default:
                return isWithin(what, 4, 3 + TEXTS) ? texts.lengths[what - 4] : REFUSED;
        }
    }

    private static boolean isWithin(int number, int least, int most) {
        return number >= least && number <= most;
    }

    private static boolean isTokenInRange(int op, int a, int b) {
        switch (op) {
            case OP_NUMBER:
            case OP_OBJECT:
                return isWithin(a, 0, NAMES - 1) && isWithin(b, 0, MOST_FIELDS - 1);
            case OP_KIND:
                return isWithin(a, 0, NAMES - 1);
            case OP_ON:
                return isWithin(a, 0, MOST_TYPES - 1);
            case OP_IF:
                return isWithin(a, 0, SWITCHES - 1) && isWithin(b, 0, 1);
            case OP_USE:
                return isWithin(a, 1, TEXTS - 1);
            default:
                return op == OP_END;
        }
    }

    /** Whether the SET stands in the same text; that of a USE does not. */
    private static boolean hasSetBehind(int op) {
        return op == OP_OBJECT || op == OP_ON || op == OP_IF;
    }

    private int kindIn(int row, int field) {
        return rows.hasRow(row) ? schema.kindOf(rows.typeOf(row), field) : NO_FIELD;
    }

    /** The types and their fields. */
    private static final class Schema {
        final int[] fieldCounts = new int[MOST_TYPES];
        final int[] kinds = new int[MOST_TYPES * MOST_FIELDS];
        final int[] targets = new int[MOST_TYPES * MOST_FIELDS];
        final boolean[] required = new boolean[MOST_TYPES * MOST_FIELDS];
        int typeCount;

        boolean hasType(int type) {
            return type >= 0 && type < typeCount;
        }

        boolean hasField(int type, int field) {
            return hasType(type) && field >= 0 && field < fieldCounts[type];
        }

        int kindOf(int type, int field) {
            return hasField(type, field) ? kinds[type * MOST_FIELDS + field] : NO_FIELD;
        }

        int targetOf(int type, int field) {
            return hasField(type, field) ? targets[type * MOST_FIELDS + field] : ANY_TYPE;
        }

        boolean isRequired(int type, int field) {
            return hasField(type, field) && required[type * MOST_FIELDS + field];
        }

        int addType() {
            int type = typeCount;
            typeCount++;
            return type;
        }

        int addField(int type, int kind, int target, boolean mustBeThere) {
            int field = fieldCounts[type];
            int at = type * MOST_FIELDS + field;
            kinds[at] = kind;
            targets[at] = target;
            required[at] = mustBeThere;
            fieldCounts[type]++;
            return field;
        }
    }

    /** The rows; a LINK is held like a MANY that has at most one row. */
    private static final class Rows {
        final int[] types = new int[MOST_ROWS];
        final int[] numbers = new int[MOST_ROWS * MOST_FIELDS];
        final int[] linkedCounts = new int[MOST_ROWS * MOST_FIELDS];
        final int[] linked = new int[MOST_ROWS * MOST_FIELDS * MOST_LINKED];
        int rowCount;

        boolean hasRow(int row) {
            return isWithin(row, 1, rowCount);
        }

        int typeOf(int row) {
            return types[row - 1];
        }

        int addRow(int type) {
            types[rowCount] = type;
            rowCount++;
            for (int field = 0; field < MOST_FIELDS; field++) {
                emptyField(rowCount, field);
            }
            return rowCount;
        }

        void emptyField(int row, int field) {
            numbers[cellOf(row, field)] = NO_NUMBER;
            linkedCounts[cellOf(row, field)] = 0;
        }

        void holdNumber(int row, int field, int number) {
            numbers[cellOf(row, field)] = number;
        }

        int numberOf(int row, int field) {
            return numbers[cellOf(row, field)];
        }

        int addLinked(int row, int field, int other) {
            int cell = cellOf(row, field);
            linked[cell * MOST_LINKED + linkedCounts[cell]] = other;
            linkedCounts[cell]++;
            return linkedCounts[cell];
        }

        int linkedCount(int row, int field) {
            return linkedCounts[cellOf(row, field)];
        }

        int linkedRow(int row, int field, int number) {
            return linked[cellOf(row, field) * MOST_LINKED + number];
        }

        private static int cellOf(int row, int field) {
            return (row - 1) * MOST_FIELDS + field;
        }
    }

    /** The query and the fragments as they were written. */
    private static final class Texts {
        final int[] lengths = new int[TEXTS];
        final int[] ops = new int[TEXTS * MOST_TOKENS];
        final int[] firsts = new int[TEXTS * MOST_TOKENS];
        final int[] seconds = new int[TEXTS * MOST_TOKENS];

        int addToken(int text, int op, int a, int b) {
            int at = text * MOST_TOKENS + lengths[text];
            ops[at] = op;
            firsts[at] = a;
            seconds[at] = b;
            lengths[text]++;
            return lengths[text];
        }

        boolean isGood(int text) {
            int openSets = 1;
            for (int i = 0; i < lengths[text]; i++) {
                if (openSets == 0) {
                    return false;
                }
                int op = ops[text * MOST_TOKENS + i];
                if (op == OP_END) {
                    openSets--;
                } else if (hasSetBehind(op)) {
                    openSets++;
                }
                // The END of a fifth SET would stand inside of five, so opening it is enough.
                if (openSets > MOST_SETS) {
                    return false;
                }
            }
            return openSets == 0;
        }
    }

    /** A token of the query that is written out; the first one that makes an ENTRY also stands for it. */
    private static final class Step {
        final int at;
        int op;
        int a;
        int b;
        /** The step whose SET this one is in. */
        Step outer;
        /** The type that is expected in the SET behind this step. */
        int typeWithin;
        /** Where the SET behind this step has its END; the step itself if there is no SET. */
        int close;
        /** What the type says of the field of a NUMBER or OBJECT. */
        int kind;
        boolean required;
        /** The ENTRY behind this one in the OBJECT that is being worked out. */
        Step nextEntry;
        /** The next step that was merged into the same ENTRY, with its SET behind it. */
        Step nextSet;

        Step(int at) {
            this.at = at;
        }

        boolean isEntry() {
            return op == OP_NUMBER || op == OP_OBJECT || op == OP_KIND;
        }
    }

    /**
     * The query with the tokens of a fragment behind each USE, so that every SET is one stretch of
     * steps. Step 0 is the OBJECT that is asked, with the query's SET behind it.
     */
    private static final class Plan {
        final Schema schema;
        final Texts texts;
        final Step[] steps = new Step[1 + MOST_STEPS];
        final boolean[] busy = new boolean[TEXTS];
        int size;
        /** Where the token is that was WRONG the last time, or NOWHERE. */
        int wrongPlace = NOWHERE;

        Plan(Schema schema, Texts texts) {
            this.schema = schema;
            this.texts = texts;
            for (int i = 0; i < steps.length; i++) {
                steps[i] = new Step(i);
            }
            steps[0].op = OP_OBJECT;
            steps[0].outer = steps[0];
        }

        Step root() {
            return steps[0];
        }

        /** Answers whether no token is WRONG. */
        boolean writeOutQuery(int type) {
            if (!texts.isGood(0)) {
                wrongPlace = 0;
                return false;
            }
            for (int text = 0; text < TEXTS; text++) {
                busy[text] = false;
            }
            steps[0].typeWithin = type;
            size = 1;
            wrongPlace = NOWHERE;
            return writeOut(0, steps[0]);
        }

        /** A text that is busy is not written out again, so this goes no deeper than there are texts. */
        private boolean writeOut(int text, Step opener) {
            Step inside = opener;
            busy[text] = true;
            for (int i = 0; i < texts.lengths[text]; i++) {
                int token = text * MOST_TOKENS + i;
                if (size >= steps.length || !isRight(takeStep(token, inside), inside.typeWithin)) {
                    wrongPlace = token;
                    return false;
                }
                Step step = steps[size - 1];
                step.typeWithin = typeBehind(step, inside.typeWithin);
                if (step.op == OP_USE) {
                    if (!writeOut(step.a, step)) {
                        return false;
                    }
                } else if (step.op == OP_END) {
                    inside.close = step.at;
                    inside = inside.outer;
                } else if (hasSetBehind(step.op)) {
                    inside = step;
                }
            }
            busy[text] = false;
            return true;
        }

        private Step takeStep(int token, Step inside) {
            Step step = steps[size];
            step.op = texts.ops[token];
            step.a = texts.firsts[token];
            step.b = texts.seconds[token];
            step.outer = inside;
            step.close = step.at;
            size++;
            return step;
        }

        private boolean isRight(Step step, int expected) {
            switch (step.op) {
                case OP_NUMBER:
                case OP_OBJECT:
                    return findField(step, expected);
                case OP_ON:
                    return schema.hasType(step.a) && (expected == step.a || expected == ANY_TYPE);
                case OP_USE:
                    return texts.isGood(step.a) && !busy[step.a];
                default:
                    return true;
            }
        }

        private boolean findField(Step step, int expected) {
            step.kind = schema.kindOf(expected, step.b);
            step.required = schema.isRequired(expected, step.b);
            if (step.op == OP_NUMBER) {
                return step.kind == NUMBER;
            }
            return step.kind == LINK || step.kind == MANY;
        }

        private int typeBehind(Step step, int expected) {
            if (step.op == OP_ON) {
                return step.a;
            }
            return step.op == OP_OBJECT ? schema.targetOf(expected, step.b) : expected;
        }
    }

    /**
     * Chains the ENTRIES of one OBJECT through the steps that make them. A step is chained only for
     * OBJECTS that lie equally deep, and of these only one is being worked out at a time: so the
     * OBJECTS within an ENTRY leave the chains around them as they are.
     */
    private static final class Collector {
        final Plan plan;
        final int[] switches;
        Step firstEntry;
        Step lastEntry;
        boolean clashed;

        Collector(Plan plan, int[] switches) {
            this.plan = plan;
            this.switches = switches;
        }

        /** The first ENTRY, or null; with clashed set it is of no use. */
        Step collect(int type, Step sets) {
            firstEntry = null;
            lastEntry = null;
            clashed = false;
            for (Step opener = sets; opener != null && !clashed; opener = opener.nextSet) {
                for (int i = opener.at + 1; i < opener.close && !clashed; i++) {
                    Step step = plan.steps[i];
                    if (step.isEntry()) {
                        enter(step);
                    }
                    if (isPassedOver(step, type)) {
                        i = Math.max(i, step.close);
                    }
                }
            }
            return firstEntry;
        }

        private boolean isPassedOver(Step step, int type) {
            switch (step.op) {
                case OP_OBJECT:
                    return true;
                case OP_ON:
                    return step.a != type;
                case OP_IF:
                    return switches[step.a] != step.b;
                default:
                    return false;
            }
        }

        private void enter(Step step) {
            step.nextSet = null;
            Step entry = entryNamed(step.a);
            if (entry == null) {
                addEntry(step);
            } else if (entry.op != step.op || (step.op != OP_KIND && entry.b != step.b)) {
                clashed = true;
            } else {
                putBehind(entry, step);
            }
        }

        private static void putBehind(Step entry, Step step) {
            Step last = entry;
            while (last.nextSet != null) {
                last = last.nextSet;
            }
            last.nextSet = step;
        }

        private Step entryNamed(int name) {
            for (Step entry = firstEntry; entry != null; entry = entry.nextEntry) {
                if (entry.a == name) {
                    return entry;
                }
            }
            return null;
        }

        private void addEntry(Step step) {
            step.nextEntry = null;
            if (lastEntry == null) {
                firstEntry = step;
            } else {
                lastEntry.nextEntry = step;
            }
            lastEntry = step;
        }
    }

    /** The places that were noted, and the place that is being worked out. */
    private static final class Places {
        final int[] here = new int[MOST_PARTS];
        final int[] lengths = new int[MOST_PLACES];
        final int[] parts = new int[MOST_PLACES * MOST_PARTS];
        int hereLength;
        int placeCount;

        void forgetAll() {
            hereLength = 0;
            placeCount = 0;
        }

        void goInto(int part) {
            if (hereLength < MOST_PARTS) {
                here[hereLength] = part;
                hereLength++;
            }
        }

        void goOut() {
            hereLength = Math.max(0, hereLength - 1);
        }

        void noteHere() {
            if (placeCount < MOST_PLACES) {
                System.arraycopy(here, 0, parts, placeCount * MOST_PARTS, hereLength);
                lengths[placeCount] = hereLength;
                placeCount++;
            }
        }

        int partOf(int place, int i) {
            if (!isWithin(place, 0, placeCount - 1) || !isWithin(i, 0, lengths[place] - 1)) {
                return REFUSED;
            }
            return parts[place * MOST_PARTS + i];
        }
    }

    /** Works out the answer to a query that was found right, and holds it. */
    private static final class Asking {
        final Rows rows;
        final Collector collector;
        final Places places = new Places();
        final int[] codes = new int[MOST_CODES];
        int codeCount;
        /** How many codes were worked out, with those that were cut back. */
        int workedOut;
        /** 0, or the CLASH or LONG that ended the work. */
        int stopped;

        Asking(Rows rows, Collector collector) {
            this.rows = rows;
            this.collector = collector;
        }

        void forget() {
            codeCount = 0;
            places.forgetAll();
        }

        int answer(int row, Step root) {
            forget();
            workedOut = 0;
            stopped = 0;
            workOutObject(row, root, 1);
            if (stopped != 0) {
                forget();
                return stopped;
            }
            return codeCount;
        }

        /** Answers whether the OBJECT is there; if not, it has been cut back to nothing. */
        private boolean workOutObject(int row, Step sets, int deep) {
            Step entries = collectEntries(row, sets, deep);
            int start = codeCount;
            boolean whole = true;
            addCode(CODE_OBJECT);
            for (Step entry = entries; entry != null && stopped == 0; entry = entry.nextEntry) {
                addCode(CODE_NAME + entry.a);
                places.goInto(entry.a);
                whole = workOutValue(row, entry, deep) && whole;
                places.goOut();
            }
            addCode(CODE_OBJECT_END);
            if (!whole && stopped == 0) {
                cutBack(start);
            }
            return whole;
        }

        private Step collectEntries(int row, Step sets, int deep) {
            // Texts that are GOOD never go so deep; this only keeps the recursion bounded by itself.
            if (deep > MOST_OBJECTS_DEEP) {
                stopped = LONG;
            }
            if (stopped != 0) {
                return null;
            }
            Step entries = collector.collect(rows.typeOf(row), sets);
            if (collector.clashed) {
                stopped = CLASH;
            }
            return entries;
        }

        /** Answers false if the OBJECT around this ENTRY has to become nothing. */
        private boolean workOutValue(int row, Step entry, int deep) {
            if (entry.op == OP_KIND) {
                addCode(CODE_KIND + rows.typeOf(row));
                return true;
            }
            switch (entry.kind) {
                case LINK:
                    return workOutLink(row, entry, deep);
                case MANY:
                    return workOutMany(row, entry, deep);
                default:
                    return workOutNumber(row, entry);
            }
        }

        private boolean workOutNumber(int row, Step entry) {
            int number = rows.numberOf(row, entry.b);
            if (number == NO_NUMBER) {
                return workOutNothing(entry);
            }
            addCode(CODE_NUMBER + number);
            return true;
        }

        private boolean workOutLink(int row, Step entry, int deep) {
            if (rows.linkedCount(row, entry.b) == 0) {
                return workOutNothing(entry);
            }
            boolean there = workOutObject(rows.linkedRow(row, entry.b, 0), entry, deep + 1);
            return there || !entry.required;
        }

        private boolean workOutMany(int row, Step entry, int deep) {
            boolean allThere = true;
            addCode(CODE_MANY);
            for (int i = 0; i < rows.linkedCount(row, entry.b) && stopped == 0; i++) {
                places.goInto(PLACE_NUMBER + i);
                allThere = workOutObject(rows.linkedRow(row, entry.b, i), entry, deep + 1) && allThere;
                places.goOut();
            }
            addCode(CODE_MANY_END);
            return allThere || !entry.required;
        }

        private boolean workOutNothing(Step entry) {
            addCode(CODE_NOTHING);
            if (!entry.required) {
                return true;
            }
            places.noteHere();
            return false;
        }

        private void addCode(int code) {
            if (stopped != 0) {
                return;
            }
            if (workedOut >= MOST_CODES) {
                stopped = LONG;
                return;
            }
            workedOut++;
            codes[codeCount] = code;
            codeCount++;
        }

        /** The 1 takes the room of the OBJECT's own 2 and is not counted as worked out. */
        private void cutBack(int start) {
            codes[start] = CODE_NOTHING;
            codeCount = start + 1;
        }
    }
}
