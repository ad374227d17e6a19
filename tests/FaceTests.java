import java.io.IOException;
import java.lang.reflect.Constructor;
import java.lang.reflect.Field;
import java.lang.reflect.Method;
import java.lang.reflect.Modifier;
import java.nio.file.Files;
import java.nio.file.Path;
import java.util.Arrays;
import java.util.Set;
import java.util.TreeSet;

/** The public face is the document's, and the source keeps to the rules of LANGUAGE.md that can be read off it. */
public final class FaceTests {
    private static final Path SOURCE = Path.of("src/main/java/PairSieve.java");
    private static final String[] FACE = {
        "int record()", "boolean drop(int)", "boolean put(int, int)", "boolean take(int, int)",
        "boolean weight(int, int)", "int feed(int, int, int, int, int)", "int end(int)", "int text(int, int)",
        "boolean measure(int, int, int)", "int order()", "int frequency(int)", "int about(int, int)",
        "int at(int, int)", "long like(int, int, int)", "int why(int, int)", "int pairs()", "int pair(int, int)",
        "int top(int)", "int core(int)", "int member(int)", "int chain(int, int)", "int next(int, int)",
        "int count(int)"};
    private static final String[] RULED_OUT = {"\\btry\\b", "\\bcatch\\b", "\\bfinally\\b", "\\bsynchronized\\b",
        "\\bassert\\b", "->", "::", "Exact\\(", "\\bSystem\\.(?!arraycopy)", "\\bstatic \\{", "\\bArrays\\.(?!copyOf|fill)",
        "\\bpackage\\b", "\\bprotected\\b", "\\bhashCode\\b", "\\bdouble\\b", "\\bfloat\\b", "\\bthrows? (?!new NoSuch|NoSuch)",
        "import (?!java\\.util\\.NoSuchElementException;)"};

    private static final Due DUE = new Due();

    private FaceTests() {
    }

    public static void main(String[] args) throws IOException {
        DUE.about("the face");
        methods();
        otherMembers();
        DUE.about("the source");
        source();
        DUE.close();
    }

    private static void methods() {
        Set<String> publicOnes = new TreeSet<>();
        Set<String> publicNames = new TreeSet<>();
        for (Method method : PairSieve.class.getDeclaredMethods()) {
            if (Modifier.isPublic(method.getModifiers())) {
                publicOnes.add(signature(method));
                publicNames.add(method.getName());
                DUE.is(method + " is of objects", Modifier.isStatic(method.getModifiers()), false);
            }
        }
        Set<String> due = new TreeSet<>(Arrays.asList(FACE));
        DUE.is("public methods " + publicOnes, publicOnes.equals(due), true);
        for (Method method : PairSieve.class.getDeclaredMethods()) {
            if (!Modifier.isPublic(method.getModifiers())) {
                DUE.is(method + " is private", Modifier.isPrivate(method.getModifiers()), true);
                DUE.is(method + " has a public one's name", publicNames.contains(method.getName()), false);
            }
        }
    }

    private static String signature(Method method) {
        StringBuilder text = new StringBuilder(method.getReturnType() + " " + method.getName() + "(");
        for (int i = 0; i < method.getParameterCount(); i++) {
            text.append(i == 0 ? "" : ", ").append(method.getParameterTypes()[i]);
        }
        return text.append(")").toString();
    }

    private static void otherMembers() {
        DUE.is("public and final", PairSieve.class.getModifiers(), Modifier.PUBLIC | Modifier.FINAL);
        Constructor<?>[] constructors = PairSieve.class.getDeclaredConstructors();
        DUE.is("constructors", constructors.length, 1);
        DUE.is("its parameters", constructors[0].getParameterCount(), 0);
        DUE.is("it is public", Modifier.isPublic(constructors[0].getModifiers()), true);
        for (Field field : PairSieve.class.getDeclaredFields()) {
            int modifiers = field.getModifiers();
            boolean isNone = field.getName().equals("NONE");
            DUE.is(field + " is private", Modifier.isPrivate(modifiers), !isNone);
            DUE.is(field + " is public", Modifier.isPublic(modifiers), isNone);
            DUE.is(field + " is final if static", !Modifier.isStatic(modifiers) || Modifier.isFinal(modifiers), true);
        }
        for (Class<?> inside : PairSieve.class.getDeclaredClasses()) {
            int modifiers = inside.getModifiers();
            DUE.is(inside + " is static", Modifier.isStatic(modifiers), true);
            DUE.is(inside + " is public", Modifier.isPublic(modifiers), false);
            DUE.is(inside + " is protected", Modifier.isProtected(modifiers), false);
        }
        DUE.is("at most twelve classes", PairSieve.class.getDeclaredClasses().length <= 11, true);
    }

    private static void source() throws IOException {
        String text = Files.readString(SOURCE).replaceAll("(?s)/\\*.*?\\*/", "").replaceAll("//.*", "");
        for (String words : RULED_OUT) {
            DUE.is(words + " stands there", text.split(words, -1).length - 1, 0);
        }
        DUE.is("signs above 127", text.chars().filter(sign -> sign > 127).count(), 0);
    }
}
