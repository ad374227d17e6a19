import java.io.IOException;
import java.nio.file.Files;
import java.nio.file.Path;
import java.util.ArrayList;
import java.util.List;

/** The face that DOC.md shows, and its sentences, each with the promise under which it stands; 0: under none. */
final class Document {
    static final int PROMISES = 24;
    private static final Path DOC = Path.of("../shared/DOC.md");

    private final List<List<String>> sentences = new ArrayList<>();
    private final List<String> face = new ArrayList<>();

    private Document() {
        for (int promise = 0; promise <= PROMISES; promise++) {
            sentences.add(new ArrayList<>());
        }
    }

    static Document read() throws IOException {
        Document document = new Document();
        int promise = 0;
        boolean tells = false;
        boolean isJava = false;
        for (String line : Files.readAllLines(DOC)) {
            if (line.startsWith("## ")) {
                promise = line.startsWith("## Promise ") ? Integer.parseInt(line.substring(11, line.indexOf(':'))) : 0;
                tells = !line.equals("## Not promised");
            } else if (line.startsWith("```")) {
                isJava = line.equals("```java");
            } else if (isJava) {
                document.face.add(line.strip());
            } else if (tells) {
                document.add(promise, line.strip());
            }
        }
        return document;
    }

    private void add(int promise, String line) {
        String text = line.replaceFirst("^==== \\d+\\. ", "").replaceFirst("^`[^`]*`: ", "");
        for (String sentence : text.split("(?<=\\.) +")) {
            if (!sentence.isEmpty()) {
                sentences.get(promise).add(sentence);
            }
        }
    }

    /** The lines of the class as the document has it, without bodies. */
    List<String> face() {
        return face;
    }

    List<String> of(int promise) {
        return sentences.get(promise);
    }

    /** A term is told under no promise: a test of it names the promise whose answers show it. */
    boolean has(int promise, String words) {
        return promise >= 1 && promise <= PROMISES && (of(promise).contains(words) || of(0).contains(words));
    }
}
