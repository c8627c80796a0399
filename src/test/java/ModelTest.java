import java.util.Random;
import java.util.TreeMap;

/** Runs of calls, chosen by a fixed seed, on a QueryGraph and on the Model side by side. */
public final class ModelTest {
    private static final int RUNS = 4000;
    private static final int[] WILD = {
        Integer.MIN_VALUE, -1000, -1, 0, 1, 2, 3, 4, 5, 6, 9, 12, 13, 16, 64, 999, 1000, Integer.MAX_VALUE,
    };

    private final Random random;
    private final int run;
    private final QueryGraph x = new QueryGraph();
    private final Model model = new Model();
    private final TreeMap<String, Integer> seen;
    private final int names;
    private int calls = 0;
    /** What is left of the 16 tokens of the text that is being written. */
    private int room;
    private final int[][] kinds = new int[5][4];
    private final int[][] targets = new int[5][4];
    private final int[] fields = new int[5];
    private final int[] rowTypes = new int[13];
    private int types;
    /** The row that the query is written for. */
    private int asked = 1;

    private ModelTest(int run, TreeMap<String, Integer> seen) {
        this.run = run;
        this.random = new Random(run);
        this.seen = seen;
        this.names = random.nextBoolean() ? 10 : 3 + random.nextInt(4);
    }

    public static void main(String[] args) {
        TreeMap<String, Integer> seen = new TreeMap<>();
        for (int run = 0; run < RUNS; run++) {
            new ModelTest(run, seen).play();
        }
        System.out.println(seen);
        String[] kinds = {"whole", "nothing", "cut back", "WRONG", "CLASH", "LONG", "fragment WRONG"};
        for (String kind : kinds) {
            Due.due("runs that met '" + kind + "' are enough", seen.getOrDefault(kind, 0) > 200 ? 1 : 0, 1);
        }
        Due.end();
    }

    private void play() {
        declare();
        fill();
        while (calls < 500) {
            if (random.nextInt(4) > 0) {
                writeTexts();
            }
            for (int i = random.nextInt(4); i > 0; i--) {
                change();
            }
            check(random.nextInt(10) == 0 ? wild() : random.nextInt(types));
            int asks = 1 + random.nextInt(3);
            for (int i = 0; i < asks; i++) {
                ask(random.nextInt(12) == 0 ? wild() : random.nextInt(4) == 0 ? aRow() : asked);
            }
            if (random.nextInt(3) == 0) {
                wildCall();
            }
        }
    }

    private int wild() {
        return WILD[random.nextInt(WILD.length)];
    }

    private void same(String call, int got, int want) {
        calls++;
        Due.due("run " + run + ": call " + calls + ": " + call, got, want);
    }

    private void declare() {
        types = 1 + random.nextInt(5);
        for (int i = 0; i < types; i++) {
            same("type()", x.type(), model.type());
        }
        int required = random.nextInt(4);
        for (int i = random.nextInt(5) + 3 * types; i > 0; i--) {
            int type = random.nextInt(types);
            int kind = random.nextInt(3);
            int target = random.nextInt(4) == 0 ? 5 : random.nextInt(types);
            boolean must = random.nextInt(4) < required;
            int number = model.field(type, kind, target, must);
            same("field(" + type + ", " + kind + ", " + target + ", " + must + ")", x.field(type, kind, target, must), number);
            if (number >= 0) {
                kinds[type][number] = kind;
                targets[type][number] = target;
                fields[type] = number + 1;
            }
        }
    }

    private void fill() {
        for (int i = 2 + random.nextInt(11); i > 0; i--) {
            int type = random.nextInt(types);
            int row = model.row(type);
            same("row(" + type + ")", x.row(type), row);
            if (row > 0) {
                rowTypes[row] = type;
            }
        }
        for (int i = 20 + random.nextInt(60); i > 0; i--) {
            fillOne();
        }
    }

    private int aRow() {
        return 1 + random.nextInt(model.count(1));
    }

    private void fillOne() {
        int row = aRow();
        int field = random.nextInt(4);
        int number = random.nextInt(1000);
        int other = aRow();
        same("put(" + row + ", " + field + ", " + number + ")", x.put(row, field, number), model.put(row, field, number));
        same("link(" + row + ", " + field + ", " + other + ")", x.link(row, field, other), model.link(row, field, other));
    }

    private void change() {
        int row = aRow();
        int field = random.nextInt(4);
        int which = random.nextInt(4);
        int value = random.nextInt(2);
        if (random.nextInt(3) == 0) {
            same("clear(" + row + ", " + field + ")", x.clear(row, field), model.clear(row, field));
        } else if (random.nextBoolean()) {
            same("set(" + which + ", " + value + ")", x.set(which, value), model.set(which, value));
        } else {
            fillOne();
        }
    }

    private void writeTexts() {
        if (random.nextInt(10) == 0) {
            writeNoise(random.nextInt(4));
            return;
        }
        asked = aRow();
        int type = rowTypes[asked];
        for (int text = 3; text >= 0; text--) {
            if (text == 0 || random.nextInt(2) == 0) {
                same("wipe(" + text + ")", x.wipe(text), model.wipe(text));
                room = 16;
                writeSet(text, random.nextInt(12) == 0 ? random.nextInt(types) : type, 1);
            }
        }
    }

    private void writeNoise(int text) {
        if (random.nextBoolean()) {
            same("wipe(" + text + ")", x.wipe(text), model.wipe(text));
        }
        for (int i = random.nextInt(6); i > 0; i--) {
            write(text, random.nextInt(7), random.nextInt(6), random.nextInt(4));
        }
    }

    private void write(int text, int op, int a, int b) {
        room--;
        same("token(" + text + ", " + op + ", " + a + ", " + b + ")", x.token(text, op, a, b), model.token(text, op, a, b));
    }

    /** Writes a SET that is mostly right for the type; room is kept for the ENDS of the SETS that are open. */
    private void writeSet(int text, int type, int deep) {
        for (int i = 1 + random.nextInt(6); i > 0 && room > deep + 2; i--) {
            writeItem(text, type, deep);
        }
        write(text, 6, 0, 0);
    }

    private void writeItem(int text, int type, int deep) {
        int name = random.nextInt(names);
        boolean mayOpen = deep < 4 || random.nextInt(100) == 0;
        int field = type == 5 ? 4 : random.nextInt(4);
        boolean there = type != 5 && field < fields[type];
        if (random.nextInt(40) == 0) {
            write(text, random.nextInt(3), name, random.nextInt(4));
        } else if (there && kinds[type][field] == QueryGraph.NUMBER) {
            write(text, 0, name, field);
        } else if (there && mayOpen) {
            write(text, 1, name, field);
            writeSet(text, targets[type][field], deep + 1);
        } else if (mayOpen && random.nextInt(3) == 0) {
            int on = type == 5 || random.nextInt(30) == 0 ? random.nextInt(types) : type;
            write(text, 3, on, 0);
            writeSet(text, on, deep + 1);
        } else if (mayOpen && random.nextInt(4) == 0) {
            write(text, 4, random.nextInt(4), random.nextInt(2));
            writeSet(text, type, deep + 1);
        } else if (random.nextInt(3) == 0 && (text < 3 || random.nextInt(10) == 0)) {
            write(text, 5, Math.min(3, random.nextInt(20) == 0 ? 1 + random.nextInt(3) : text + 1 + random.nextInt(2)), 0);
        } else {
            write(text, 2, name, random.nextInt(3));
        }
    }

    private void check(int type) {
        same("check(" + type + ")", x.check(type), model.check(type));
        same("place()", x.place(), model.place());
        sameState();
    }

    private void ask(int row) {
        int answer = model.ask(row);
        same("ask(" + row + ")", x.ask(row), answer);
        same("place()", x.place(), model.place());
        sameState();
        for (int i = -1; i <= 121; i++) {
            Due.due("run " + run + ": code(" + i + ")", x.code(i), model.code(i));
        }
        for (int k = -1; k <= model.count(3); k++) {
            for (int i = -1; i <= 27; i++) {
                Due.due("run " + run + ": missing(" + k + ", " + i + ")", x.missing(k, i), model.missing(k, i));
            }
        }
        remember(answer);
    }

    private void remember(int answer) {
        String what = "whole";
        if (answer < 0) {
            what = new String[] {"REFUSED", "FULL", "WRONG", "CLASH", "LONG"}[-1 - answer];
            if (answer == QueryGraph.WRONG && model.place() >= 16) {
                what = "fragment WRONG";
            }
        } else if (answer == 1) {
            what = "nothing";
        } else if (model.count(3) > 0) {
            what = "cut back";
        }
        seen.merge(what, 1, Integer::sum);
    }

    private void sameState() {
        for (int what = -1; what <= 8; what++) {
            Due.due("run " + run + ": count(" + what + ")", x.count(what), model.count(what));
        }
    }

    private void wildCall() {
        int a = wild();
        int b = wild();
        int c = wild();
        int d = wild();
        String with = "(" + a + ", " + b + ", " + c + ", " + d + ")";
        switch (random.nextInt(13)) {
            case 0 -> same("type()", x.type(), model.type());
            case 1 -> same("field" + with, x.field(a, b, c, true), model.field(a, b, c, true));
            case 2 -> same("row" + with, x.row(a), model.row(a));
            case 3 -> same("put" + with, x.put(a, b, c), model.put(a, b, c));
            case 4 -> same("link" + with, x.link(a, b, c), model.link(a, b, c));
            case 5 -> same("clear" + with, x.clear(a, b), model.clear(a, b));
            case 6 -> same("set" + with, x.set(a, b), model.set(a, b));
            case 7 -> same("token" + with, x.token(a, b, c, d), model.token(a, b, c, d));
            case 8 -> same("wipe" + with, x.wipe(a), model.wipe(a));
            case 9 -> same("check" + with, x.check(a), model.check(a));
            case 10 -> same("code" + with, x.code(a), model.code(a));
            case 11 -> same("missing" + with, x.missing(a, b), model.missing(a, b));
            default -> same("count" + with, x.count(a), model.count(a));
        }
    }
}
