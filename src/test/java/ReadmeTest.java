import java.io.IOException;
import java.nio.file.Files;
import java.nio.file.Path;
import java.util.Set;
import java.util.TreeSet;
import java.util.regex.Matcher;
import java.util.regex.Pattern;
import java.util.stream.Stream;

/** What README.md says is true of the class and of the project as they stand. */
public final class ReadmeTest {
    public static void main(String[] args) throws IOException {
        String page = Files.readString(Path.of("README.md"));
        methods(page);
        example(page);
        statements(page);
        classes(page);
        files(page);
        tests(page);
        Testing.end();
    }

    private static void holds(String what, boolean is) {
        Testing.due("README.md: " + what, is ? 1 : 0, 1);
    }

    /** Each method can be found, with the number of its promise. */
    private static void methods(String page) {
        for (int promise = 1; promise <= Document.PROMISES; promise++) {
            String signature = Document.signature(promise);
            String line = "\\| `" + Pattern.quote(signature) + "` \\| [^\n]+ \\| " + promise + " \\|\n";
            holds(signature + " of promise " + promise, Pattern.compile(line).matcher(page).find());
        }
        String[] codes = {"`UNKNOWN` (-1)", "`BAD` (-2)", "`LATE` (-3)", "`FULL` (-4)", "`NONE` (-9)"};
        for (String code : codes) {
            holds(code, Document.plain(page).contains(code));
        }
    }

    /** The example's calls, one after the other, with the answers that stand behind them; each method is among them. */
    private static void example(String page) {
        int from = page.indexOf("```java");
        String block = page.substring(from, page.indexOf("```", from + 3));
        Matcher text = Pattern.compile("String text = \"([^\"]*)\";").matcher(block);
        holds("the example has a text", text.find());
        LoopGuesses x = new LoopGuesses();
        Testing.writeAll(x, text.group(1));
        Set<String> called = new TreeSet<>();
        called.add("write");
        Matcher m = Pattern.compile("\nx\\.(\\w+)(\\([^)]*\\)); +// (-?\\d+)").matcher(block);
        while (m.find()) {
            called.add(m.group(1));
            String call = m.group(1) + m.group(2);
            Testing.due("README.md: " + call, Calls.answer(x, call), Long.parseLong(m.group(3)));
        }
        for (int promise = 2; promise <= Document.PROMISES; promise++) {
            String name = Document.signature(promise).replaceAll("\\w+ (\\w+)\\(.*", "$1");
            holds(name + " is called in the example", called.contains(name));
        }
    }

    private static void statements(String page) {
        for (String form : new String[] {"v=t", "v+", "v-", "v?", "@C", "!C", "(CS)", "{S\\|S}", ";C"}) {
            holds("the form " + form, page.contains("`" + form + "`"));
        }
    }

    private static void classes(String page) {
        Matcher m = Pattern.compile("\n- `(\\w+)`|`(\\w+)` gives up").matcher(page);
        Set<String> named = new TreeSet<>();
        while (m.find()) {
            named.add(m.group(1) == null ? m.group(2) : m.group(1));
        }
        Set<String> inside = new TreeSet<>();
        for (Class<?> c : LoopGuesses.class.getDeclaredClasses()) {
            inside.add(c.getSimpleName());
        }
        holds("some classes are told of", named.size() > 5);
        for (String name : named) {
            holds("there is a class " + name, inside.contains(name));
        }
    }

    private static void files(String page) {
        Matcher m = Pattern.compile("(?<![\\w./])(?:\\.\\./|src/|\\.ci/)[\\w./]*\\w").matcher(page);
        int found = 0;
        while (m.find()) {
            found++;
            holds("there is " + m.group(), Files.exists(Path.of(m.group())));
        }
        holds("files are named", found > 8);
        holds(".ci/run can be run", Files.isExecutable(Path.of(".ci/run")));
    }

    private static void tests(String page) throws IOException {
        Set<String> there = new TreeSet<>();
        try (Stream<Path> found = Files.list(Path.of("src/test/java"))) {
            found.map(p -> p.getFileName().toString()).filter(n -> n.endsWith("Test.java"))
                    .forEach(n -> there.add(n.replace(".java", "")));
        }
        Set<String> named = new TreeSet<>();
        Matcher m = Pattern.compile("`(\\w+Test)`").matcher(page.substring(page.indexOf("| Test |")));
        while (m.find()) {
            named.add(m.group(1));
        }
        holds("the tests are " + there + ": " + named, named.equals(there));
        holds("how to run all", page.contains("```sh\n.ci/run\n```"));
        holds("how to run one", page.contains("src/test/java/RefusedTest.java\njava -cp /tmp/t RefusedTest\n"));
    }
}
