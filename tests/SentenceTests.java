import java.io.IOException;
import java.lang.reflect.InvocationTargetException;
import java.lang.reflect.Method;
import java.util.Arrays;
import java.util.Comparator;
import java.util.List;
import java.util.Set;
import java.util.TreeSet;

/**
 * Runs the tests of the document's sentences that name a boundary, and looks whether each sentence of the document
 * has one, and whether each test's sentence stands there.
 */
public final class SentenceTests extends Bench {
    private static final List<Class<?>> TESTS = List.of(ObjectSentences.class, RecordSentences.class,
        TapeSentences.class, MeasureSentences.class, SieveSentences.class, PairSentences.class, FamilySentences.class,
        CountSentences.class);

    /** Sentences without a boundary. */
    private static final String WHAT_IT_IS = "A sieve that finds, of many sets, ";

    private SentenceTests() {
    }

    public static void main(String[] args) throws IOException, IllegalAccessException {
        Document document = Document.read();
        Set<String> tested = new TreeSet<>();
        int tests = 0;
        for (Class<?> group : TESTS) {
            Method[] methods = group.getDeclaredMethods();
            Arrays.sort(methods, Comparator.comparing(Method::getName));
            for (Method method : methods) {
                Sentence sentence = method.getAnnotation(Sentence.class);
                if (sentence != null) {
                    tests++;
                    tested.add(sentence.words());
                    stands(document, sentence, method);
                    run(sentence, method);
                }
            }
        }
        allAreTested(document, tested);
        System.out.println(tests + " tests of " + tested.size() + " sentences");
        DUE.close();
    }

    private static void stands(Document document, Sentence sentence, Method test) {
        DUE.about("the sentence of " + test.getName());
        is("it stands under promise " + sentence.promise(), document.has(sentence.promise(), sentence.words()), true);
        is("\"" + sentence.part() + "\" is in it", sentence.words().contains(sentence.part()), true);
    }

    private static void run(Sentence sentence, Method test) throws IllegalAccessException {
        String part = sentence.part().isEmpty() ? "" : " (" + sentence.part() + ")";
        DUE.about("promise " + sentence.promise() + ", \"" + sentence.words() + "\"" + part + ", " + test.getName());
        int before = DUE.compared();
        try {
            test.setAccessible(true);
            test.invoke(null);
        } catch (InvocationTargetException e) {
            is("it threw " + e.getCause() + ", which", false, true);
        }
        is("it compared something", DUE.compared() > before, true);
    }

    private static void allAreTested(Document document, Set<String> tested) {
        DUE.about("the document");
        for (int promise = 0; promise <= Document.PROMISES; promise++) {
            is("promise " + promise + " has sentences", document.of(promise).isEmpty(), false);
            for (String words : document.of(promise)) {
                is("a test of \"" + words + "\"", tested.contains(words) || words.startsWith(WHAT_IT_IS), true);
            }
        }
    }
}
