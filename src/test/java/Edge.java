import java.io.IOException;
import java.nio.file.Files;
import java.nio.file.Path;

/** A boundary case, under the words of the document that name it. */
final class Edge {
    private static final String DOCUMENT = document();

    private Edge() {
    }

    /** What the test asks is told together with these words; they have to stand in the document. */
    static void of(String words, Runnable test) {
        Check.about(words);
        Check.due("the document has these words", DOCUMENT.isEmpty() || DOCUMENT.contains(words), true);
        test.run();
        Check.about("");
    }

    /** Empty where the document is not at hand: the answers are asked for all the same. */
    private static String document() {
        try {
            return Files.readString(Path.of("../shared/DOC.md")).replaceAll("\\s+", " ");
        } catch (IOException e) {
            return "";
        }
    }
}
