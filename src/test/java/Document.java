import java.io.IOException;
import java.io.UncheckedIOException;
import java.nio.file.Files;
import java.nio.file.Path;

/** The document, so that a test's sentences are those that stand there. */
final class Document {
    private static final Path PLACE = Path.of("../shared/DOC.md");
    private static final String WORDS = read();

    private Document() {
    }

    private static String read() {
        try {
            return Files.readString(PLACE).replaceAll("\\s+", " ");
        } catch (IOException e) {
            throw new UncheckedIOException(e);
        }
    }

    static void says(String sentence) {
        Due.isTrue("the document says: " + sentence, WORDS.contains(sentence));
    }
}
