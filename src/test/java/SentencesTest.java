import java.io.IOException;
import java.nio.file.Files;
import java.nio.file.Path;
import java.util.ArrayList;
import java.util.List;
import java.util.regex.Matcher;
import java.util.regex.Pattern;
import java.util.stream.Stream;

/**
 * Each sentence of the document is quoted by a test (by Document.says), but for those that ask for nothing; and each
 * method of a test is called, so that what is quoted is really tried.
 */
public final class SentencesTest {
    private static final Pattern SAYS =
            Pattern.compile("Document\\.says\\(\\s*(?:(\\d+),\\s*)?(\"(?:[^\"\\\\]|\\\\.)*\"(?:\\s*\\+\\s*\"(?:[^\"\\\\]|\\\\.)*\")*)\\s*\\)");
    private static final Pattern LITERAL = Pattern.compile("\"((?:[^\"\\\\]|\\\\.)*)\"");

    /** What asks for nothing that could be tried: headings, and what the document leaves free. */
    private static final String[] FREE = {
        "# LoopGuesses", "## What it is", "what later calls answer is free.", "## The public face", "## Description",
        "---- the program", "---- doings", "---- guesses", "---- seen", "---- chances", "---- slots", "## Not promised",
        "How the state is held inside the object is free, as are the speed of each call, the text of toString and the"
            + " behaviour of equals and hashCode. Use of one object from several threads at once is not promised to be safe.",
        "and nothing about an object after its 512th call.",
    };

    private static final String WORDS = Document.words();
    private static final boolean[] known = new boolean[WORDS.length()];
    private static int quotes = 0;

    public static void main(String[] args) throws IOException {
        for (String free : FREE) {
            mark(free, 0, WORDS.length());
        }
        for (int promise = 1; promise <= Document.PROMISES; promise++) {
            markHeading(promise);
        }
        markExamples();
        List<Path> files = new ArrayList<>();
        try (Stream<Path> found = Files.list(Path.of("src/test/java"))) {
            found.filter(p -> p.toString().endsWith("Test.java")).sorted().forEach(files::add);
        }
        for (Path file : files) {
            String source = Files.readString(file);
            markQuotes(source);
            allCalled(file.getFileName().toString(), source);
        }
        Testing.due("there are quotes", quotes > 150 ? 1 : 0, 1);
        tellRest();
        Testing.end();
    }

    /** Marks the first place in this range where the words stand: a sentence that stands twice needs two quotes. */
    private static void mark(String words, int from, int to) {
        int at = WORDS.indexOf(Document.plain(words), from);
        boolean is = at >= 0 && at + words.length() <= to;
        Testing.due("the document has: " + words, is ? 1 : 0, 1);
        for (int i = at; is && i < at + words.length(); i++) {
            known[i] = true;
        }
    }

    /** The heading and the signature, which FaceTest holds against the class. */
    private static void markHeading(int promise) {
        int begin = Document.beginOf(promise);
        String signature = "`" + Document.signature(promise) + "`";
        int end = WORDS.indexOf(signature, begin) + signature.length();
        Testing.due("promise " + promise + " has a signature", end > begin && end < Document.endOf(promise) ? 1 : 0, 1);
        for (int i = begin; i < end && i < known.length; i++) {
            known[i] = true;
        }
    }

    /** ExamplesTest reads them from the document itself. */
    private static void markExamples() {
        int begin = WORDS.indexOf(" 1. A loop without guesses proves nothing:");
        int end = WORDS.indexOf("The constructor and the methods follow");
        Testing.due("the document has examples", begin > 0 && end > begin ? 1 : 0, 1);
        for (int i = Math.max(begin, 0); i < end; i++) {
            known[i] = true;
        }
    }

    private static void markQuotes(String source) {
        Matcher m = SAYS.matcher(source);
        while (m.find()) {
            quotes++;
            StringBuilder words = new StringBuilder();
            Matcher literal = LITERAL.matcher(m.group(2));
            while (literal.find()) {
                words.append(literal.group(1).replace("\\\"", "\""));
            }
            int promise = m.group(1) == null ? 0 : Integer.parseInt(m.group(1));
            mark(words.toString(), promise == 0 ? 0 : Document.beginOf(promise),
                    promise == 0 ? WORDS.length() : Document.endOf(promise));
        }
    }

    private static void allCalled(String file, String source) {
        Matcher m = Pattern.compile("private static \\w+ (\\w+)\\(").matcher(source);
        while (m.find()) {
            String name = m.group(1);
            int uses = source.split("\\b" + name + "\\(|::" + name + "\\b", -1).length - 1;
            Testing.due(file + ": " + name + " is called", uses > 1 ? 1 : 0, 1);
        }
    }

    /** Each run of words that no test quotes; the name ahead of a parameter's description is no sentence. */
    private static void tellRest() {
        StringBuilder rest = new StringBuilder();
        int left = 0;
        for (int i = 0; i <= known.length; i++) {
            if (i < known.length && !known[i]) {
                rest.append(WORDS.charAt(i));
                continue;
            }
            String words = rest.toString().replaceAll("- `\\w+`:|```java", "");
            if (words.matches(".*[A-Za-z0-9].*")) {
                left++;
                System.out.println("no test quotes: " + words);
            }
            rest.setLength(0);
        }
        Testing.due("sentences without a test", left, 0);
    }
}
