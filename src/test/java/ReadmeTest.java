import java.lang.reflect.Method;
import java.lang.reflect.Modifier;
import java.net.URL;
import java.net.URLClassLoader;
import java.nio.file.Files;
import java.nio.file.Path;
import java.util.ArrayList;
import java.util.List;
import java.util.regex.Matcher;
import java.util.regex.Pattern;
import java.util.stream.Stream;
import javax.tools.ToolProvider;

/**
 * The example of README.md as it stands there: its lines are compiled and run, and each call must answer what the
 * comment behind it begins with. "6 codes: 2, .." names the codes of the answer too.
 */
public final class ReadmeTest {
    private static final Pattern CALL = Pattern.compile("(?:int (\\w+) = )?(graph\\.\\w+\\(.*?\\)); *(?:// *(.*))?");
    private static final Pattern ANSWER = Pattern.compile("(-?\\d+)(?: codes: ([\\d, ]+))?.*");

    private final List<String> calls = new ArrayList<>();
    private final List<Integer> answers = new ArrayList<>();
    private final StringBuilder body = new StringBuilder();

    public static void main(String[] args) throws Exception {
        new ReadmeTest().compare(exampleLines());
        Due.end();
    }

    private static List<String> exampleLines() throws Exception {
        List<String> lines = new ArrayList<>();
        boolean inside = false;
        for (String line : Files.readAllLines(Path.of("README.md"))) {
            if (line.startsWith("```")) {
                inside = line.equals("```java");
            } else if (inside && !line.isBlank()) {
                lines.add(line);
            }
        }
        return lines;
    }

    private void compare(List<String> lines) throws Exception {
        for (String line : lines) {
            takeOver(line);
        }
        List<?> got = run();
        Due.due("how many answers there are", got.size(), answers.size());
        for (int i = 0; i < Math.min(got.size(), answers.size()); i++) {
            Due.due(calls.get(i), (Integer) got.get(i), answers.get(i));
        }
        everyMethodIsThere(String.join("\n", lines));
    }

    private void takeOver(String line) {
        Matcher call = CALL.matcher(line);
        if (!call.matches()) {
            body.append(line).append('\n');
            return;
        }
        Matcher answer = ANSWER.matcher(call.group(3) == null ? "" : call.group(3));
        if (!answer.matches()) {
            Due.due("the answer that is named behind " + line, "none", "a number");
            return;
        }
        if (call.group(1) == null) {
            expect(call.group(2), call.group(2), Integer.parseInt(answer.group(1)));
        } else {
            body.append(line).append('\n');
            expect(call.group(2), call.group(1), Integer.parseInt(answer.group(1)));
        }
        if (answer.group(2) != null) {
            expectCodes(answer.group(2).split(","));
        }
    }

    private void expectCodes(String[] codes) {
        for (int i = 0; i < codes.length; i++) {
            expect("code " + i + " of the answer", "graph.code(" + i + ")", Integer.parseInt(codes[i].trim()));
        }
        expect("the code behind the answer", "graph.code(" + codes.length + ")", QueryGraph.REFUSED);
    }

    private void expect(String call, String expression, int answer) {
        calls.add(call);
        answers.add(answer);
        body.append("got.add(").append(expression).append(");\n");
    }

    /** The example has a class loader of its own, so it hands its answers out in a list. */
    private List<?> run() throws Exception {
        Path directory = Files.createTempDirectory("readme");
        try {
            Path file = directory.resolve("ReadmeExample.java");
            Files.writeString(file, "public final class ReadmeExample {\n"
                + "public static java.util.List<Integer> run() {\n"
                + "java.util.List<Integer> got = new java.util.ArrayList<>();\n" + body + "return got;\n}\n}\n");
            int compiled = ToolProvider.getSystemJavaCompiler().run(null, null, null,
                "-cp", System.getProperty("java.class.path"), "-d", directory.toString(), file.toString());
            Due.due("compiling the example", compiled, 0);
            if (compiled != 0) {
                return List.of();
            }
            try (URLClassLoader loader = new URLClassLoader(new URL[] {directory.toUri().toURL()})) {
                return (List<?>) loader.loadClass("ReadmeExample").getMethod("run").invoke(null);
            }
        } finally {
            remove(directory);
        }
    }

    private static void remove(Path directory) throws Exception {
        try (Stream<Path> files = Files.list(directory)) {
            for (Path file : (Iterable<Path>) files::iterator) {
                Files.delete(file);
            }
        }
        Files.delete(directory);
    }

    private static void everyMethodIsThere(String example) {
        for (Method method : QueryGraph.class.getDeclaredMethods()) {
            if (Modifier.isPublic(method.getModifiers()) && !example.contains("graph." + method.getName() + "(")) {
                Due.due("the example with " + method.getName(), "without it", "with it");
            }
        }
    }
}
