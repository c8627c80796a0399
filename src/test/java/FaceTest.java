import java.lang.reflect.Constructor;
import java.lang.reflect.Field;
import java.lang.reflect.Method;
import java.lang.reflect.Modifier;
import java.util.TreeSet;

/** The public face: the constants, the constructor and the methods of the document, and nothing else that is not private. */
public final class FaceTest {
    private static final String FACE =
        "CLASH FULL LINK LONG MANY NUMBER QueryGraph() REFUSED WRONG ask(int) check(int) clear(int,int) code(int) "
            + "count(int) field(int,int,int,boolean) link(int,int,int) missing(int,int) place() put(int,int,int) "
            + "row(int) set(int,int) token(int,int,int,int) type() wipe(int)";

    public static void main(String[] args) {
        constants();
        members();
        Due.end();
    }

    private static void constants() {
        Due.due("REFUSED", QueryGraph.REFUSED, -1);
        Due.due("FULL", QueryGraph.FULL, -2);
        Due.due("WRONG", QueryGraph.WRONG, -3);
        Due.due("CLASH", QueryGraph.CLASH, -4);
        Due.due("LONG", QueryGraph.LONG, -5);
        Due.due("NUMBER", QueryGraph.NUMBER, 0);
        Due.due("LINK", QueryGraph.LINK, 1);
        Due.due("MANY", QueryGraph.MANY, 2);
    }

    private static void members() {
        TreeSet<String> open = new TreeSet<>();
        for (Field field : QueryGraph.class.getDeclaredFields()) {
            if (!Modifier.isPrivate(field.getModifiers())) {
                open.add(field.getName());
            }
        }
        for (Method method : QueryGraph.class.getDeclaredMethods()) {
            if (!Modifier.isPrivate(method.getModifiers())) {
                open.add(method.getName() + parameters(method.getParameterTypes()));
                Due.due(method.getName() + " answers", method.getReturnType().getName(), "int");
            }
        }
        for (Constructor<?> constructor : QueryGraph.class.getDeclaredConstructors()) {
            open.add("QueryGraph" + parameters(constructor.getParameterTypes()));
        }
        Due.due("the face", String.join(" ", open), FACE);
        Due.due("public and final", Modifier.toString(QueryGraph.class.getModifiers()), "public final");
    }

    private static String parameters(Class<?>[] types) {
        StringBuilder all = new StringBuilder("(");
        for (int i = 0; i < types.length; i++) {
            all.append(i == 0 ? "" : ",").append(types[i].getName());
        }
        return all.append(")").toString();
    }
}
