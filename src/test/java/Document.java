import java.io.IOException;
import java.io.UncheckedIOException;
import java.nio.file.Files;
import java.nio.file.Path;

/** The document, so that a test that names a sentence of it names one that is really there. */
final class Document {
    private static final String WORDS = read();

    private Document() {
    }

    private static String read() {
        try {
            return plain(Files.readString(Path.of("../shared/DOC.md")));
        } catch (IOException e) {
            throw new UncheckedIOException(e);
        }
    }

    private static String plain(String text) {
        return text.replaceAll("\\s+", " ");
    }

    /** The sentence (or the part of one) that the tests behind this call are for. */
    static void says(String sentence) {
        Testing.under(sentence);
        if (!WORDS.contains(plain(sentence))) {
            Testing.due("the document has no such sentence", 0, 1);
        }
    }
}
