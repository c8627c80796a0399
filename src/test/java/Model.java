import java.util.ArrayList;
import java.util.Arrays;
import java.util.LinkedHashMap;
import java.util.List;
import java.util.Map;

/**
 * The document once more, written for plainness: texts are parsed into trees, an answer is worked out whole as a tree
 * and only then cut back. It shares nothing with QueryGraph but its constants.
 */
final class Model {
    private record Field(int kind, int target, boolean required) {
    }

    private record Token(int op, int a, int b) {
    }

    /** An item with its place and, for OBJECT, ON and IF, its SET; an END is an item too. */
    private record Item(Token token, int place, List<Item> set) {
    }

    private record Row(int type, Map<Integer, Integer> numbers, Map<Integer, List<Integer>> links) {
    }

    private record Entry(Token token, List<List<Item>> sets) {
    }

    /** An OBJECT with its entries, a MANY with its parts, or a leaf with its code. */
    private record Value(int code, Field field, Map<Integer, Value> entries, List<Value> parts) {
    }

    private static final class Stop extends RuntimeException {
        private static final long serialVersionUID = 1L;
        private final int answer;

        Stop(int answer) {
            this.answer = answer;
        }
    }

    private final List<List<Field>> types = new ArrayList<>();
    private final List<Row> rows = new ArrayList<>();
    private final List<List<Token>> texts = new ArrayList<>();
    private final int[] switches = new int[4];
    private int place = QueryGraph.REFUSED;
    private List<Integer> codes = new ArrayList<>();
    private List<List<Integer>> places = new ArrayList<>();
    private int gone;
    private int worked;

    Model() {
        for (int i = 0; i < 4; i++) {
            texts.add(new ArrayList<>());
        }
    }

    int type() {
        if (types.size() == 5 || !rows.isEmpty()) {
            return QueryGraph.FULL;
        }
        types.add(new ArrayList<>());
        return types.size() - 1;
    }

    int field(int type, int kind, int target, boolean required) {
        boolean targetIsThere = target == 5 || target >= 0 && target < types.size();
        if (kind == QueryGraph.NUMBER) {
            targetIsThere = target >= 0 && target <= 5;
        }
        if (type < 0 || type >= types.size() || kind < 0 || kind > 2 || !targetIsThere) {
            return QueryGraph.REFUSED;
        }
        if (!rows.isEmpty() || types.get(type).size() == 4) {
            return QueryGraph.FULL;
        }
        types.get(type).add(new Field(kind, target, required));
        return types.get(type).size() - 1;
    }

    int row(int type) {
        if (type < 0 || type >= types.size()) {
            return QueryGraph.REFUSED;
        }
        if (rows.size() == 12) {
            return QueryGraph.FULL;
        }
        Row row = new Row(type, new LinkedHashMap<>(), new LinkedHashMap<>());
        for (int f = 0; f < types.get(type).size(); f++) {
            row.links.put(f, new ArrayList<>());
        }
        rows.add(row);
        return rows.size();
    }

    private Field fieldOf(int row, int field) {
        if (row < 1 || row > rows.size()) {
            return null;
        }
        List<Field> fields = types.get(rows.get(row - 1).type);
        return field < 0 || field >= fields.size() ? null : fields.get(field);
    }

    int put(int row, int field, int number) {
        Field f = fieldOf(row, field);
        if (f == null || f.kind != QueryGraph.NUMBER || number < 0 || number > 999) {
            return QueryGraph.REFUSED;
        }
        rows.get(row - 1).numbers.put(field, number);
        return 0;
    }

    int link(int row, int field, int other) {
        Field f = fieldOf(row, field);
        if (f == null || f.kind == QueryGraph.NUMBER || other < 1 || other > rows.size()) {
            return QueryGraph.REFUSED;
        }
        if (f.target != 5 && f.target != rows.get(other - 1).type) {
            return QueryGraph.REFUSED;
        }
        List<Integer> there = rows.get(row - 1).links.get(field);
        if (f.kind == QueryGraph.MANY && there.size() == 4) {
            return QueryGraph.FULL;
        }
        if (f.kind == QueryGraph.LINK) {
            there.clear();
        }
        there.add(other);
        return there.size();
    }

    int clear(int row, int field) {
        if (fieldOf(row, field) == null) {
            return QueryGraph.REFUSED;
        }
        rows.get(row - 1).numbers.remove(field);
        rows.get(row - 1).links.get(field).clear();
        return 0;
    }

    int set(int which, int value) {
        if (which < 0 || which > 3 || value < 0 || value > 1) {
            return QueryGraph.REFUSED;
        }
        switches[which] = value;
        return 0;
    }

    int token(int text, int op, int a, int b) {
        if (text < 0 || text > 3 || op < 0 || op > 6) {
            return QueryGraph.REFUSED;
        }
        int[] leastA = {0, 0, 0, 0, 0, 1, Integer.MIN_VALUE};
        int[] mostA = {9, 9, 9, 4, 3, 3, Integer.MAX_VALUE};
        if (a < leastA[op] || a > mostA[op]) {
            return QueryGraph.REFUSED;
        }
        if (op <= 1 && (b < 0 || b > 3) || op == 4 && (b < 0 || b > 1)) {
            return QueryGraph.REFUSED;
        }
        if (texts.get(text).size() == 16) {
            return QueryGraph.FULL;
        }
        texts.get(text).add(new Token(op, a, b));
        return texts.get(text).size();
    }

    int wipe(int text) {
        if (text < 0 || text > 3) {
            return QueryGraph.REFUSED;
        }
        int had = texts.get(text).size();
        texts.get(text).clear();
        return had;
    }

    int count(int what) {
        switch (what) {
            case 0:
                return types.size();
            case 1:
                return rows.size();
            case 2:
                return codes.size();
            case 3:
                return places.size();
            default:
                return what >= 4 && what <= 7 ? texts.get(what - 4).size() : QueryGraph.REFUSED;
        }
    }

    int code(int i) {
        return i < 0 || i >= codes.size() ? QueryGraph.REFUSED : codes.get(i);
    }

    int missing(int k, int i) {
        if (k < 0 || k >= places.size() || i < 0 || i >= places.get(k).size()) {
            return QueryGraph.REFUSED;
        }
        return places.get(k).get(i);
    }

    int place() {
        return place;
    }

    int check(int type) {
        if (type < 0 || type >= types.size()) {
            return QueryGraph.REFUSED;
        }
        place = QueryGraph.REFUSED;
        List<Item> query = parse(0);
        if (query == null) {
            place = 0;
            return QueryGraph.WRONG;
        }
        gone = 0;
        try {
            checkSet(query, type, new ArrayList<>());
        } catch (Stop stop) {
            place = stop.answer;
            return QueryGraph.WRONG;
        }
        return 0;
    }

    /** The text's SET, or null if it is not GOOD. */
    private List<Item> parse(int text) {
        int[] at = {0};
        List<Item> set = parseSet(text, at, 1);
        return set != null && at[0] == texts.get(text).size() ? set : null;
    }

    private List<Item> parseSet(int text, int[] at, int deep) {
        if (deep > 4) {
            return null;
        }
        List<Item> items = new ArrayList<>();
        while (at[0] < texts.get(text).size()) {
            int i = at[0]++;
            Token token = texts.get(text).get(i);
            List<Item> set = null;
            if (token.op == 1 || token.op == 3 || token.op == 4) {
                set = parseSet(text, at, deep + 1);
                if (set == null) {
                    return null;
                }
            }
            items.add(new Item(token, 16 * text + i, set));
            if (token.op == 6) {
                return items;
            }
        }
        return null;
    }

    private Field fieldOfType(int type, int field) {
        return type == 5 || field >= types.get(type).size() ? null : types.get(type).get(field);
    }

    private void checkSet(List<Item> set, int expected, List<Integer> using) {
        for (Item item : set) {
            Token t = item.token;
            gone++;
            boolean wrong = gone > 60;
            Field field = t.op <= 1 ? fieldOfType(expected, t.b) : null;
            if (t.op == 0) {
                wrong |= field == null || field.kind != QueryGraph.NUMBER;
            } else if (t.op == 1) {
                wrong |= field == null || field.kind == QueryGraph.NUMBER;
            } else if (t.op == 3) {
                wrong |= t.a >= types.size() || expected != 5 && expected != t.a;
            } else if (t.op == 5) {
                wrong |= parse(t.a) == null || using.contains(t.a);
            }
            if (wrong) {
                throw new Stop(item.place);
            }
            if (t.op == 1) {
                checkSet(item.set, field.target, using);
            } else if (t.op == 3) {
                checkSet(item.set, t.a, using);
            } else if (t.op == 4) {
                checkSet(item.set, expected, using);
            } else if (t.op == 5) {
                List<Integer> more = new ArrayList<>(using);
                more.add(t.a);
                checkSet(parse(t.a), expected, more);
            }
        }
    }

    int ask(int row) {
        if (row < 1 || row > rows.size()) {
            return QueryGraph.REFUSED;
        }
        int answer = check(rows.get(row - 1).type);
        codes = new ArrayList<>();
        places = new ArrayList<>();
        if (answer == QueryGraph.WRONG) {
            return answer;
        }
        worked = 0;
        Value whole;
        try {
            whole = object(row, List.of(parse(0)), null);
        } catch (Stop stop) {
            return stop.answer;
        }
        note(whole, new ArrayList<>());
        writeCodes(whole);
        return codes.size();
    }

    private void collect(Row row, List<Item> set, Map<Integer, Entry> entries) {
        for (Item item : set) {
            Token t = item.token;
            if (t.op == 3 && t.a == row.type || t.op == 4 && switches[t.a] == t.b) {
                collect(row, item.set, entries);
            } else if (t.op == 5) {
                collect(row, parse(t.a), entries);
            } else if (t.op <= 2) {
                Entry entry = entries.computeIfAbsent(t.a, name -> new Entry(t, new ArrayList<>()));
                if (entry.token.op != t.op || t.op != 2 && entry.token.b != t.b) {
                    throw new Stop(QueryGraph.CLASH);
                }
                if (t.op == 1) {
                    entry.sets.add(item.set);
                }
            }
        }
    }

    private void work() {
        worked++;
        if (worked > 120) {
            throw new Stop(QueryGraph.LONG);
        }
    }

    private Value leaf(int code, Field field) {
        work();
        return new Value(code, field, null, null);
    }

    private Value object(int number, List<List<Item>> sets, Field field) {
        Row row = rows.get(number - 1);
        Map<Integer, Entry> entries = new LinkedHashMap<>();
        for (List<Item> set : sets) {
            collect(row, set, entries);
        }
        work();
        Map<Integer, Value> values = new LinkedHashMap<>();
        for (Map.Entry<Integer, Entry> named : entries.entrySet()) {
            work();
            values.put(named.getKey(), value(row, named.getValue()));
        }
        work();
        return new Value(2, field, values, null);
    }

    private Value value(Row row, Entry entry) {
        if (entry.token.op == 2) {
            return leaf(2000 + row.type, null);
        }
        Field field = types.get(row.type).get(entry.token.b);
        List<Integer> linked = row.links.get(entry.token.b);
        if (field.kind == QueryGraph.NUMBER) {
            Integer number = row.numbers.get(entry.token.b);
            return leaf(number == null ? 1 : 1000 + number, field);
        }
        if (field.kind == QueryGraph.LINK) {
            return linked.isEmpty() ? leaf(1, field) : object(linked.get(0), entry.sets, field);
        }
        work();
        List<Value> parts = new ArrayList<>();
        for (int other : linked) {
            parts.add(object(other, entry.sets, field));
        }
        work();
        return new Value(4, field, null, parts);
    }

    /** Whether the value is nothing once the whole answer has been cut back. */
    private boolean isNothing(Value value) {
        if (value.entries == null) {
            return value.code == 1;
        }
        for (Value entry : value.entries.values()) {
            boolean required = entry.field != null && entry.field.required;
            if (!required) {
                continue;
            }
            if (entry.parts == null && isNothing(entry)) {
                return true;
            }
            if (entry.parts != null && entry.parts.stream().anyMatch(this::isNothing)) {
                return true;
            }
        }
        return false;
    }

    private void note(Value value, List<Integer> here) {
        if (value.code == 1 && value.field.required) {
            places.add(here);
        }
        if (value.entries != null) {
            value.entries.forEach((name, entry) -> note(entry, with(here, name)));
        }
        for (int i = 0; value.parts != null && i < value.parts.size(); i++) {
            note(value.parts.get(i), with(here, 10 + i));
        }
    }

    private static List<Integer> with(List<Integer> here, int part) {
        List<Integer> longer = new ArrayList<>(here);
        longer.add(part);
        return longer;
    }

    private void writeCodes(Value value) {
        if (value.parts != null) {
            codes.add(4);
            value.parts.forEach(this::writeCodes);
            codes.add(5);
        } else if (value.entries == null || isNothing(value)) {
            codes.add(value.entries == null ? value.code : 1);
        } else {
            codes.add(2);
            value.entries.forEach((name, entry) -> {
                codes.addAll(Arrays.asList(10 + name));
                writeCodes(entry);
            });
            codes.add(3);
        }
    }
}
