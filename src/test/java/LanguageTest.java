import java.lang.reflect.Field;
import java.lang.reflect.Method;
import java.lang.reflect.Modifier;
import java.nio.file.Files;
import java.nio.file.Path;
import java.util.ArrayList;
import java.util.List;
import java.util.Set;
import java.util.TreeSet;
import java.util.regex.Matcher;
import java.util.regex.Pattern;

/** Rules of LANGUAGE.md that can be seen from the source and from the compiled class. */
public final class LanguageTest {
    private static final Path SOURCE = Path.of("src/main/java/QueryGraph.java");
    private static final Pattern FORBIDDEN = Pattern.compile(
        "\\b(?:package|import|throws?|try|catch|finally|synchronized|assert|protected|record|var|System\\.(?!arraycopy)\\w+"
            + "|Math\\.\\w*Exact|Object|Thread|Random)\\b|->|::|@|\"");
    private static final Pattern METHOD = Pattern.compile("( {4}| {8})(?!if|for|while|switch|else|do|return)\\w.*\\(.*\\) \\{");
    private static final Pattern CONSTRUCTOR = Pattern.compile("(?:public )?[A-Z]\\w*\\(");
    private static final int LONGEST_METHOD = 60;

    public static void main(String[] args) throws Exception {
        String source = withoutComments(Files.readString(SOURCE));
        words(source);
        methods(source.split("\n"));
        List<Class<?>> classes = classes();
        nested(classes);
        names(classes);
        fields(classes);
        parameters(classes);
        Due.end();
    }

    private static String withoutComments(String source) {
        return source.replaceAll("(?s)/\\*.*?\\*/", "").replaceAll("//[^\n]*", "");
    }

    private static void words(String source) {
        Due.sentence("3, 4, 6, 13: the library and the words that are left");
        Matcher found = FORBIDDEN.matcher(source);
        while (found.find()) {
            Due.due("a word of the source", found.group(), "none of those that are ruled out");
        }
    }

    private static void methods(String[] lines) {
        int methods = 0;
        for (int i = 0; i < lines.length; i++) {
            Matcher method = METHOD.matcher(lines[i]);
            if (method.matches()) {
                int end = i;
                while (!lines[end].equals(method.group(1) + "}")) {
                    end++;
                }
                method(lines[i].trim(), List.of(lines).subList(i + 1, end));
                methods++;
            }
        }
        Due.due("methods were found", methods > 15 ? 1 : 0, 1);
    }

    private static void method(String head, List<String> body) {
        Due.sentence("11: methods stay short (some sixty lines)");
        Due.due(head + " is short", body.size() < LONGEST_METHOD ? 1 : 0, 1);
        Due.sentence("12: what a run makes is counted; here constructors alone make objects");
        boolean makes = !CONSTRUCTOR.matcher(head).lookingAt() && String.join("\n", body).contains("new ");
        Due.due(head + " makes an object", makes ? 1 : 0, 0);
    }

    private static List<Class<?>> classes() {
        List<Class<?>> all = new ArrayList<>();
        all.add(QueryGraph.class);
        for (int i = 0; i < all.size(); i++) {
            all.addAll(List.of(all.get(i).getDeclaredClasses()));
        }
        return all;
    }

    private static void nested(List<Class<?>> classes) {
        Due.sentence("1, 2, 11: classes inside are static and not public; some twelve classes");
        Due.due("at most twelve classes", classes.size() <= 12 ? 1 : 0, 1);
        for (Class<?> one : classes.subList(1, classes.size())) {
            int modifiers = one.getModifiers();
            Due.due(one + " is static", Modifier.isStatic(modifiers) ? 1 : 0, 1);
            Due.due(one + " is open", Modifier.isPublic(modifiers) || Modifier.isProtected(modifiers) ? 1 : 0, 0);
        }
    }

    private static void names(List<Class<?>> classes) {
        Due.sentence("1: no private method bears the name of a public one");
        Set<String> open = new TreeSet<>();
        for (Method method : QueryGraph.class.getDeclaredMethods()) {
            if (Modifier.isPublic(method.getModifiers())) {
                open.add(method.getName());
            }
        }
        Due.due("public names", open.size(), 15);
        for (Class<?> one : classes) {
            for (Method method : one.getDeclaredMethods()) {
                boolean taken = !Modifier.isPublic(method.getModifiers()) && open.contains(method.getName());
                Due.due(one.getSimpleName() + "." + method.getName() + " bears a public name", taken ? 1 : 0, 0);
            }
        }
    }

    private static void fields(List<Class<?>> classes) {
        for (Class<?> one : classes) {
            int own = 0;
            for (Field field : one.getDeclaredFields()) {
                boolean fixed = Modifier.isStatic(field.getModifiers());
                own += fixed ? 0 : 1;
                Due.sentence("5: static fields are final");
                Due.due(field + " may change", fixed && !Modifier.isFinal(field.getModifiers()) ? 1 : 0, 0);
                Due.sentence("3: numbers, booleans, own classes and arrays of these");
                Class<?> type = field.getType().isArray() ? field.getType().getComponentType() : field.getType();
                Due.due(field + " is of a type that is left", type.isPrimitive() || classes.contains(type) ? 1 : 0, 1);
            }
            Due.sentence("11: a class some twenty fields beside its constants");
            Due.due(one.getSimpleName() + " has few fields", own <= 20 ? 1 : 0, 1);
        }
    }

    private static void parameters(List<Class<?>> classes) {
        Due.sentence("11: a method takes at most seven parameters");
        for (Class<?> one : classes) {
            for (Method method : one.getDeclaredMethods()) {
                Due.due(method + " takes few", method.getParameterCount() <= 7 ? 1 : 0, 1);
            }
        }
    }
}
