import java.io.IOException;
import java.io.UncheckedIOException;
import java.nio.file.Files;
import java.nio.file.Path;
import java.util.ArrayList;
import java.util.List;
import java.util.regex.Matcher;
import java.util.regex.Pattern;

/** The document, so that a test that names a sentence of it names one that is really there. */
final class Document {
    static final int PROMISES = 24;

    private static final String TEXT = read();
    private static final String WORDS = plain(TEXT);

    private Document() {
    }

    private static String read() {
        try {
            return Files.readString(Path.of("../shared/DOC.md"));
        } catch (IOException e) {
            throw new UncheckedIOException(e);
        }
    }

    static String plain(String text) {
        return text.replaceAll("\\s+", " ");
    }

    /** The whole document, with single spaces for line ends. */
    static String words() {
        return WORDS;
    }

    /** The sentence (or the part of one) that the tests behind this call are for. */
    static void says(String sentence) {
        Testing.under(sentence);
        if (!WORDS.contains(plain(sentence))) {
            Testing.due("the document has no such sentence", 0, 1);
        }
    }

    /** The same for a sentence that several promises have: this one is looked for in this promise alone. */
    static void says(int promise, String sentence) {
        Testing.under(promise + ": " + sentence);
        if (!WORDS.substring(beginOf(promise), endOf(promise)).contains(plain(sentence))) {
            Testing.due("the promise has no such sentence", 0, 1);
        }
    }

    /** Where a promise begins in the words; the document's length if there is none of this number. */
    static int beginOf(int promise) {
        int at = WORDS.indexOf("## Promise " + promise + ":");
        return at < 0 ? WORDS.length() : at;
    }

    static int endOf(int promise) {
        int at = WORDS.indexOf("## ", Math.min(beginOf(promise) + 1, WORDS.length()));
        return at < 0 ? WORDS.length() : at;
    }

    /** What stands between the two, in the document's own lines. */
    static String between(String first, String last) {
        int from = TEXT.indexOf(first);
        int to = from < 0 ? -1 : TEXT.indexOf(last, from + first.length());
        return to < 0 ? "" : TEXT.substring(from + first.length(), to);
    }

    /** The signature that stands below the heading of a promise. */
    static String signature(int promise) {
        Matcher m = Pattern.compile("`([^`]*)`").matcher(WORDS.substring(beginOf(promise), endOf(promise)));
        return m.find() ? m.group(1) : "";
    }

    /** The calls of an example, each as it is written there: "write(40) = 1". */
    static List<String> example(int number) {
        List<String> calls = new ArrayList<>();
        String last = number == 4 ? "The constructor and the methods follow" : "\n" + (number + 1) + ". ";
        Matcher m = Pattern.compile("\\w+\\([^()]*\\) = -?\\d+").matcher(between("\n" + number + ". ", last));
        while (m.find()) {
            calls.add(m.group());
        }
        return calls;
    }
}
