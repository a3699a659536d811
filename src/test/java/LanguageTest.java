import java.io.IOException;
import java.lang.management.ManagementFactory;
import java.lang.reflect.Constructor;
import java.lang.reflect.Field;
import java.lang.reflect.Method;
import java.lang.reflect.Modifier;
import java.nio.file.Files;
import java.nio.file.Path;
import java.util.Arrays;
import java.util.Set;
import java.util.TreeSet;
import java.util.regex.Matcher;
import java.util.regex.Pattern;

/** The rules of LANGUAGE.md that can be looked at from outside: the face, the words, the sizes, the objects made. */
public final class LanguageTest {
    private static final String[] FACE = {
        "public int write(int)", "public int wipe()", "public int fault()", "public int program()",
        "public int about(int)", "public int loop(int,int)", "public int check(int,int)", "public int start(int)",
        "public int begin(int,int)", "public int turn(int)", "public int undo()", "public int falls(int,int)",
        "public int fewest(int)", "public int judge(int,long)", "public int share(int,boolean)",
        "public int see(int,int)", "public int unsee()", "public int which(int)", "public int lost(int,boolean)",
        "public long seed(long)", "public int drawn(int)", "public int keep(int)", "public int again(int)",
    };

    public static void main(String[] args) throws IOException {
        face();
        insides();
        words(withoutComments(Files.readString(Path.of("src/main/java/LoopGuesses.java"))));
        objectsMade();
        Testing.end();
    }

    private static void holds(String rule, boolean is) {
        Testing.due(rule, is ? 1 : 0, 1);
    }

    private static void face() {
        holds("rule 1: public and final", LoopGuesses.class.getModifiers() == (Modifier.PUBLIC | Modifier.FINAL));
        Set<String> found = new TreeSet<>();
        for (Method m : LoopGuesses.class.getDeclaredMethods()) {
            if (!Modifier.isPrivate(m.getModifiers())) {
                found.add(m.toGenericString().replace("LoopGuesses.", ""));
            }
        }
        holds("rule 1: the methods are the document's", found.equals(new TreeSet<>(Arrays.asList(FACE))));
        Set<String> constants = new TreeSet<>();
        for (Field f : LoopGuesses.class.getDeclaredFields()) {
            if (!Modifier.isPrivate(f.getModifiers())) {
                constants.add(f.getName());
            }
        }
        holds("rule 1: the constants are the document's",
                constants.equals(new TreeSet<>(Arrays.asList("UNKNOWN", "BAD", "LATE", "FULL", "NONE"))));
        Constructor<?>[] constructors = LoopGuesses.class.getDeclaredConstructors();
        holds("rule 1: one public constructor",
                constructors.length == 1 && Modifier.isPublic(constructors[0].getModifiers())
                        && constructors[0].getParameterCount() == 0);
    }

    private static void insides() {
        Set<String> open = new TreeSet<>();
        for (String method : FACE) {
            open.add(method.replaceAll("public \\w+ (\\w+)\\(.*", "$1"));
        }
        Class<?>[] inside = LoopGuesses.class.getDeclaredClasses();
        holds("rule 11: at most twelve classes", inside.length + 1 <= 12);
        for (Class<?> c : inside) {
            holds("rule 1: " + c + " is static", Modifier.isStatic(c.getModifiers()));
            for (Method m : c.getDeclaredMethods()) {
                holds("rule 1: no second " + m, !open.contains(m.getName()));
            }
        }
        limits(LoopGuesses.class);
        for (Class<?> c : inside) {
            limits(c);
        }
    }

    private static void limits(Class<?> c) {
        int fields = 0;
        for (Field f : c.getDeclaredFields()) {
            holds("rule 5: " + f + " is final if static",
                    !Modifier.isStatic(f.getModifiers()) || Modifier.isFinal(f.getModifiers()));
            fields += Modifier.isStatic(f.getModifiers()) ? 0 : 1;
        }
        holds("rule 11: at most twenty fields in " + c, fields <= 20);
        for (Method m : c.getDeclaredMethods()) {
            holds("rule 11: at most seven parameters of " + m, m.getParameterCount() <= 7);
        }
    }

    private static String withoutComments(String source) {
        return source.replaceAll("(?s)/\\*.*?\\*/", "").replaceAll("//[^\n]*", "");
    }

    private static void words(String source) {
        for (String word : new String[] {"throw", "throws", "try", "catch", "finally", "synchronized", "assert", "import",
                "package", "instanceof", "native", "volatile", "transient", "protected", "System", "Thread", "Random",
                "Object", "double", "float"}) {
            holds("no '" + word + "' in the class", !Pattern.compile("\\b" + word + "\\b").matcher(source).find());
        }
        holds("rule 2: no lambda", !source.contains("->"));
        holds("rule 2: no method reference", !source.contains("::"));
        holds("rule 4: nothing exact", !source.contains("Exact("));
        int longest = 0;
        int begun = 0;
        int number = 0;
        for (String line : source.split("\n")) {
            number++;
            if (line.matches("( {4}| {8})\\S[^=;]*\\) \\{")) {
                begun = number;
            } else if (line.matches("( {4}| {8})\\}")) {
                longest = begun == 0 ? longest : Math.max(longest, number - begun + 1);
                begun = 0;
            }
        }
        holds("rule 11: the longest method has " + longest + " lines", longest > 20 && longest <= 60);
        Matcher made = Pattern.compile("\\bnew \\w+").matcher(source);
        int count = 0;
        while (made.find()) {
            count++;
        }
        holds("objects are made in few places", count < 60);
    }

    /** All rows are made in the constructor: the calls make nothing. */
    private static void objectsMade() {
        for (int i = 0; i < 20; i++) {
            bytesOfCalls();
        }
        long bytes = bytesOfCalls();
        holds("rule 12: some 500 calls made objects of " + bytes + " bytes", bytes < 4096);
    }

    private static long bytesOfCalls() {
        com.sun.management.ThreadMXBean threads =
                (com.sun.management.ThreadMXBean) ManagementFactory.getThreadMXBean();
        LoopGuesses x = Testing.withProgram("a=0b=0(a<5a+{b+|})!b<4!a=5(c<ac?)!c>4;a<4;a=b;b<4;a>b;c<5");
        long id = Thread.currentThread().getId();
        long before = threads.getThreadAllocatedBytes(id);
        long sum = 0;
        for (int i = 0; i < 24; i++) {
            sum += x.fault() + x.program() + x.begin(i % 3, i % 7) + x.turn(i % 5) + x.about(5) + x.about(6) + x.about(8);
            sum += x.loop(0, 0) + x.check(0, 3) + x.falls(0, 0) + x.fewest(0) + x.judge(2, 30013001L) + x.share(1, true);
            sum += x.see(i % 2, i % 2) + x.which(0) + x.lost(3, true) + x.drawn(20) + x.keep(0) + x.again(0) + x.undo();
        }
        long bytes = threads.getThreadAllocatedBytes(id) - before;
        return sum == Long.MIN_VALUE ? -1 : bytes;
    }
}
