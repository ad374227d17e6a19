import java.io.IOException;
import java.lang.reflect.InvocationTargetException;
import java.lang.reflect.Method;
import java.net.URL;
import java.net.URLClassLoader;
import java.nio.file.Files;
import java.nio.file.Path;
import java.util.ArrayList;
import java.util.List;
import java.util.regex.Matcher;
import java.util.regex.Pattern;
import javax.tools.ToolProvider;

/** README.md tells how to use the class and how to run the tests: what it says must hold. */
public final class ReadmeTests {
    private static final Path README = Path.of("README.md");
    private static final Pattern ANSWER = Pattern.compile(
        "(?:int|long|boolean) (\\w+) = .*; +// (-?\\d+|true|false)(?:|:.*)");

    private static final Due DUE = new Due();

    private ReadmeTests() {
    }

    public static void main(String[] args) throws IOException, ReflectiveOperationException {
        String text = Files.readString(README);
        DUE.about("README.md");
        namesAllCalls(text);
        namesAllTests(text);
        List<List<String>> examples = examplesIn(text);
        DUE.is("it has examples", examples.size() >= 2, true);
        for (int i = 0; i < examples.size(); i++) {
            DUE.about("README.md, example " + (i + 1));
            run(examples.get(i), "Example" + (i + 1));
        }
        DUE.close();
    }

    private static void namesAllCalls(String text) {
        for (Method method : PairSieve.class.getDeclaredMethods()) {
            if (java.lang.reflect.Modifier.isPublic(method.getModifiers())) {
                DUE.is("it tells " + method.getName(), text.contains("`" + method.getName() + "("), true);
            }
        }
        DUE.is("it tells .ci/run", text.contains(".ci/run"), true);
    }

    private static void namesAllTests(String text) throws IOException {
        try (var files = Files.list(Path.of("tests"))) {
            for (Path file : files.toList()) {
                String name = file.getFileName().toString().replace(".java", "");
                if (name.endsWith("Tests")) {
                    DUE.is("it tells " + name, text.contains("- `" + name + "`: "), true);
                }
            }
        }
    }

    private static List<List<String>> examplesIn(String text) {
        List<List<String>> examples = new ArrayList<>();
        boolean inside = false;
        for (String line : text.split("\n")) {
            if (line.startsWith("```")) {
                inside = line.equals("```java");
                if (inside) {
                    examples.add(new ArrayList<>());
                }
            } else if (inside) {
                examples.get(examples.size() - 1).add(line);
            }
        }
        return examples;
    }

    /** The example as it stands, with a line behind each answer that gathers what was answered and what is due. */
    private static void run(List<String> example, String name) throws IOException, ReflectiveOperationException {
        StringBuilder source = new StringBuilder("public class " + name
            + " {\n public static void run(java.util.List<String> all) {\n");
        int answers = 0;
        for (String line : example) {
            source.append(line).append('\n');
            Matcher matcher = ANSWER.matcher(line);
            DUE.is("an answer stands behind " + line.strip(), matcher.matches(), line.contains(" = sieve."));
            if (matcher.matches()) {
                answers++;
                source.append("all.add(\"" + matcher.group(1) + "\"); all.add(String.valueOf(" + matcher.group(1)
                    + ")); all.add(\"" + matcher.group(2) + "\");\n");
            }
        }
        source.append("}\n}\n");
        DUE.is("it tells answers", answers > 0, true);
        List<String> all = new ArrayList<>();
        call(name, source.toString(), all);
        DUE.is("answers gathered", all.size(), 3 * answers);
        for (int i = 0; i + 2 < all.size(); i += 3) {
            DUE.is(all.get(i), all.get(i + 1), all.get(i + 2));
        }
    }

    private static void call(String name, String source, List<String> all)
            throws IOException, ReflectiveOperationException {
        Path room = Files.createTempDirectory("readme");
        Path file = room.resolve(name + ".java");
        Files.writeString(file, source);
        int failed = ToolProvider.getSystemJavaCompiler().run(null, null, null, "-cp",
            System.getProperty("java.class.path"), "-d", room.toString(), file.toString());
        DUE.is("it compiles", failed, 0);
        if (failed == 0) {
            try (URLClassLoader loader = new URLClassLoader(new URL[] {room.toUri().toURL()})) {
                loader.loadClass(name).getMethod("run", List.class).invoke(null, all);
            } catch (InvocationTargetException e) {
                DUE.is("it threw " + e.getCause() + ", which", false, true);
            }
        }
        Files.deleteIfExists(room.resolve(name + ".class"));
        Files.deleteIfExists(file);
        Files.deleteIfExists(room);
    }
}
