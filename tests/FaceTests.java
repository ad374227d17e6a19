import java.io.IOException;
import java.lang.reflect.Constructor;
import java.lang.reflect.Field;
import java.lang.reflect.Method;
import java.lang.reflect.Modifier;
import java.nio.file.Files;
import java.nio.file.Path;
import java.util.ArrayList;
import java.util.Arrays;
import java.util.List;
import java.util.Set;
import java.util.TreeSet;
import java.util.regex.Matcher;
import java.util.regex.Pattern;
import java.util.stream.Collectors;

/** The public face is the document's, and the source keeps to the rules of LANGUAGE.md that can be read off it. */
public final class FaceTests {
    private static final Path SOURCE = Path.of("src/main/java/PairSieve.java");
    private static final String[] RULED_OUT = {"\\btry\\b", "\\bcatch\\b", "\\bfinally\\b", "\\bsynchronized\\b",
        "\\bassert\\b", "->", "::", "Exact\\(", "\\bstatic \\{", "\\bpackage\\b", "\\bprotected\\b", "\\bhashCode\\b",
        "\\bdouble\\b", "\\bfloat\\b", "\\bthrows? (?!new NoSuch|NoSuch)", "\\bString\\b", "\\bObject\\b",
        "\\bnew [A-Z]\\w*(?!\\w|\\(|\\[)", "import (?!java\\.util\\.NoSuchElementException;)"};
    private static final Set<String> LIBRARY = Set.of("System.arraycopy", "Math.min", "Long.bitCount");
    private static final Pattern STATIC_CALL = Pattern.compile("\\b([A-Z]\\w*)\\.(\\w+)\\(");
    private static final Pattern METHOD = Pattern.compile(
        "( {4}| {8})(?!if |for |while |switch |else |return )(?:\\w[^(]* )?\\w+\\([^()]*\\) (?:throws \\w+ )?\\{");

    private static final Due DUE = new Due();

    private FaceTests() {
    }

    public static void main(String[] args) throws IOException {
        DUE.about("the face");
        isTheDocuments(Document.read().face());
        otherMembers();
        DUE.about("the classes");
        for (Class<?> one : classes()) {
            sizes(one);
        }
        DUE.about("the source");
        String text = Files.readString(SOURCE).replaceAll("(?s)/\\*.*?\\*/", "").replaceAll("//.*", "");
        source(text);
        libraryCalls(text);
        methodLengths(text);
        DUE.close();
    }

    private static List<Class<?>> classes() {
        List<Class<?>> all = new ArrayList<>(List.of(PairSieve.class));
        all.addAll(Arrays.asList(PairSieve.class.getDeclaredClasses()));
        return all;
    }

    private static void isTheDocuments(List<String> face) {
        Set<String> due = new TreeSet<>();
        for (String line : face) {
            if (line.startsWith("public ") && line.endsWith(");") || line.contains(" throws ")) {
                due.add(line.replaceAll("(\\w+) \\w+(?=[,)])", "$1"));
            }
        }
        Set<String> declared = new TreeSet<>();
        for (Constructor<?> constructor : PairSieve.class.getConstructors()) {
            declared.add("public PairSieve(" + names(constructor.getParameterTypes()) + ");");
        }
        for (Method method : PairSieve.class.getDeclaredMethods()) {
            if (Modifier.isPublic(method.getModifiers())) {
                declared.add(asDeclared(method));
            }
        }
        DUE.is("public constructors and methods", String.join("\n", declared), String.join("\n", due));
        DUE.is("how many there are", due.size(), 24);
        DUE.is("its constant is there", face.contains("public static final int NONE = -1;"), true);
        DUE.is("NONE", PairSieve.NONE, -1);
    }

    private static String asDeclared(Method method) {
        String thrown = names(method.getExceptionTypes());
        return Modifier.toString(method.getModifiers()) + " " + method.getReturnType() + " " + method.getName() + "("
            + names(method.getParameterTypes()) + ")" + (thrown.isEmpty() ? "" : " throws " + thrown) + ";";
    }

    private static String names(Class<?>[] types) {
        return Arrays.stream(types).map(Class::getSimpleName).collect(Collectors.joining(", "));
    }

    private static void otherMembers() {
        DUE.is("public and final", PairSieve.class.getModifiers(), Modifier.PUBLIC | Modifier.FINAL);
        DUE.is("constructors", PairSieve.class.getDeclaredConstructors().length, 1);
        Set<String> publicNames = new TreeSet<>();
        for (Method method : PairSieve.class.getMethods()) {
            publicNames.add(method.getName());
        }
        for (Class<?> one : classes()) {
            for (Method method : one.getDeclaredMethods()) {
                boolean isPrivate = Modifier.isPrivate(method.getModifiers());
                boolean isPublic = Modifier.isPublic(method.getModifiers());
                DUE.is(method + " is of the face or private", one != PairSieve.class || isPrivate || isPublic, true);
                DUE.is(method + " has a public one's name", isPrivate && publicNames.contains(method.getName()), false);
            }
        }
        for (Field field : PairSieve.class.getDeclaredFields()) {
            boolean isNone = field.getName().equals("NONE");
            DUE.is(field + " is private", Modifier.isPrivate(field.getModifiers()), !isNone);
            DUE.is(field + " is public", Modifier.isPublic(field.getModifiers()), isNone);
        }
        for (Class<?> inside : PairSieve.class.getDeclaredClasses()) {
            int modifiers = inside.getModifiers();
            DUE.is(inside + " is static", Modifier.isStatic(modifiers), true);
            DUE.is(inside + " is public", Modifier.isPublic(modifiers), false);
            DUE.is(inside + " is protected", Modifier.isProtected(modifiers), false);
        }
    }

    private static void sizes(Class<?> one) {
        int fields = 0;
        for (Field field : one.getDeclaredFields()) {
            int modifiers = field.getModifiers();
            if (Modifier.isStatic(modifiers)) {
                DUE.is(field + " is final", Modifier.isFinal(modifiers), true);
                DUE.is(field + " is a constant", field.getType() == int.class, true);
            } else {
                fields++;
            }
        }
        DUE.is(one + " has few fields", fields <= 20, true);
        for (Method method : one.getDeclaredMethods()) {
            DUE.is(method + " has few parameters", method.getParameterCount() <= 7, true);
        }
        DUE.is("at most twelve classes", classes().size() <= 12, true);
    }

    private static void source(String text) {
        for (String words : RULED_OUT) {
            DUE.is(words + " stands there", Pattern.compile(words).matcher(text).results().count(), 0);
        }
        DUE.is("signs above 127", text.chars().filter(sign -> sign > 127).count(), 0);
    }

    private static void libraryCalls(String text) {
        Set<String> own = classes().stream().map(Class::getSimpleName).collect(Collectors.toSet());
        Matcher calls = STATIC_CALL.matcher(text);
        while (calls.find()) {
            String call = calls.group(1) + "." + calls.group(2);
            DUE.is(call + " may be called", own.contains(calls.group(1)) || LIBRARY.contains(call), true);
        }
    }

    /** A method's body ends where a brace stands as far in as its first line. */
    private static void methodLengths(String text) {
        String[] lines = text.split("\n");
        int methods = 0;
        for (int i = 0; i < lines.length; i++) {
            Matcher first = METHOD.matcher(lines[i]);
            if (first.matches()) {
                methods++;
                int last = i;
                while (last < lines.length - 1 && !lines[last].equals(first.group(1) + "}")) {
                    last++;
                }
                DUE.is(lines[i].strip() + " is short", last - i < 60, true);
            }
        }
        int declared = 0;
        for (Class<?> one : classes()) {
            declared += one.getDeclaredMethods().length;
        }
        // Beside the methods, those constructors that are written out.
        DUE.is("methods looked at", methods, declared + 2);
    }
}
