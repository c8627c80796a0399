import java.lang.reflect.Array;
import java.lang.reflect.Field;
import java.lang.reflect.Modifier;
import java.util.ArrayDeque;
import java.util.Collections;
import java.util.Deque;
import java.util.IdentityHashMap;
import java.util.Set;

/** How much room an object takes, and that the dearest calls add nothing to what it holds. */
public final class RoomTest {
    private static final int MOST_OBJECTS = 200;
    private static final int MOST_ELEMENTS = 5000;

    private final Set<Object> seen = Collections.newSetFromMap(new IdentityHashMap<>());
    private int elements;

    public static void main(String[] args) throws Exception {
        QueryGraph x = new QueryGraph();
        RoomTest fresh = new RoomTest();
        fresh.walk(x);
        Due.due("objects are few", fresh.seen.size() <= MOST_OBJECTS ? 1 : 0, 1);
        Due.due("fields and elements are few", fresh.elements <= MOST_ELEMENTS ? 1 : 0, 1);
        use(x);
        RoomTest used = new RoomTest();
        used.walk(x);
        Due.due("objects behind the calls", used.seen.size(), fresh.seen.size());
        Due.due("fields and elements behind the calls", used.elements, fresh.elements);
        Due.due("the objects are the same ones", used.seen.containsAll(fresh.seen) ? 1 : 0, 1);
        System.out.println(fresh.seen.size() + " objects, " + fresh.elements + " fields and elements");
        Due.end();
    }

    private void walk(Object start) throws Exception {
        Deque<Object> todo = new ArrayDeque<>();
        todo.add(start);
        while (!todo.isEmpty()) {
            Object one = todo.poll();
            if (!seen.add(one)) {
                continue;
            }
            if (one.getClass().isArray()) {
                elements += Array.getLength(one);
                for (int i = 0; one instanceof Object[] && i < Array.getLength(one); i++) {
                    add(todo, Array.get(one, i));
                }
                continue;
            }
            for (Field field : one.getClass().getDeclaredFields()) {
                if (!Modifier.isStatic(field.getModifiers())) {
                    elements++;
                    field.setAccessible(true);
                    add(todo, field.getType().isPrimitive() ? null : field.get(one));
                }
            }
        }
    }

    private static void add(Deque<Object> todo, Object one) {
        if (one != null) {
            todo.add(one);
        }
    }

    /** Every call of the face, with asks that have many codes, many places, CLASH, LONG and WRONG. */
    private static void use(QueryGraph x) {
        x.type();
        x.field(0, QueryGraph.NUMBER, 0, true);
        x.field(0, QueryGraph.MANY, 0, false);
        for (int row = 1; row <= 12; row++) {
            x.row(0);
            for (int i = 0; i < 4; i++) {
                x.link(row, 1, 1 + (row + i) % 12);
            }
        }
        x.put(1, 0, 5);
        x.clear(1, 0);
        x.set(0, 1);
        Due.write(x, 3, "N00 N10 N20 N30 N40 E");
        Due.write(x, 2, "I01 U3 U3 E E");
        Due.write(x, 1, "U2 U2 E");
        String[] queries = {"O01 U1 E E", "O01 O01 U3 E E E", "O01 O01 O01 U1 E E E E", "N00 K0 E", "N03 E", "K0"};
        for (int i = 0; i < 60; i++) {
            Due.write(x, 0, queries[i % queries.length]);
            x.check(0);
            x.ask(1 + i % 12);
        }
    }
}
