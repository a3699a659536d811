import java.lang.reflect.Constructor;
import java.lang.reflect.Field;
import java.lang.reflect.Method;
import java.lang.reflect.Modifier;
import java.util.Set;
import java.util.TreeSet;
import java.util.regex.Matcher;
import java.util.regex.Pattern;

/** The section "The public face", and the signature of each promise, read from the document and held against the class. */
public final class FaceTest {
    private static final String FACE = Document.plain(Document.between("```java\n", "```"));

    public static void main(String[] args) throws IllegalAccessException {
        theClass();
        constants();
        constructor();
        methods();
        signatures();
        Testing.end();
    }

    private static void holds(String what, boolean is) {
        Testing.due(what, is ? 1 : 0, 1);
    }

    private static void theClass() {
        Document.says("public final class LoopGuesses {");
        holds("public and final", LoopGuesses.class.getModifiers() == (Modifier.PUBLIC | Modifier.FINAL));
        holds("without a package", LoopGuesses.class.getPackageName().isEmpty());
        holds("a class like any other", LoopGuesses.class.getSuperclass() == Object.class
                && LoopGuesses.class.getInterfaces().length == 0 && LoopGuesses.class.getTypeParameters().length == 0);
    }

    private static void constants() throws IllegalAccessException {
        Document.says("public static final int UNKNOWN = -1, BAD = -2, LATE = -3, FULL = -4, NONE = -9;");
        Matcher m = Pattern.compile("(\\w+) = (-\\d+)").matcher(FACE);
        Set<String> named = new TreeSet<>();
        while (m.find()) {
            named.add(m.group(1) + " " + m.group(2));
        }
        Testing.due("the constants of the document", named.size(), 5);
        Set<String> found = new TreeSet<>();
        for (Field f : LoopGuesses.class.getFields()) {
            holds(f + " is a constant", f.getType() == int.class
                    && f.getModifiers() == (Modifier.PUBLIC | Modifier.STATIC | Modifier.FINAL));
            found.add(f.getName() + " " + f.getInt(null));
        }
        holds("the constants are " + named + ": " + found, found.equals(named));
        // A case must be a constant of the language, so this is compiled only if they are.
        switch (-9) {
            case LoopGuesses.UNKNOWN:
            case LoopGuesses.BAD:
            case LoopGuesses.LATE:
            case LoopGuesses.FULL:
                holds("NONE is none of the error codes", false);
                break;
            case LoopGuesses.NONE:
                holds("NONE", true);
                break;
            default:
                holds("NONE is -9", false);
                break;
        }
    }

    private static void constructor() {
        Document.says("public LoopGuesses();");
        Constructor<?>[] found = LoopGuesses.class.getDeclaredConstructors();
        holds("one constructor, public and without parameters", found.length == 1
                && Modifier.isPublic(found[0].getModifiers()) && found[0].getParameterCount() == 0
                && found[0].getExceptionTypes().length == 0);
    }

    /** A signature without the names of its parameters: "int loop(int, int)". */
    private static String bare(String signature) {
        return signature.replaceAll("(int|long|boolean) \\w+(?=[,)])", "$1");
    }

    private static Set<String> documented() {
        Set<String> found = new TreeSet<>();
        Matcher m = Pattern.compile("public ((?:int|long) \\w+\\([^)]*\\));").matcher(FACE);
        while (m.find()) {
            found.add(bare(m.group(1)));
        }
        return found;
    }

    private static void methods() {
        Document.says("public int write(int letter); public int wipe(); public int fault(); public int program();"
                + " public int about(int what); public int loop(int loop, int what); public int check(int check, int what);"
                + " public int start(int variable); public int begin(int variable, int v); public int turn(int guess);"
                + " public int undo(); public int falls(int loop, int guesses); public int fewest(int what);"
                + " public int judge(int n, long row); public int share(int guess, boolean upper);"
                + " public int see(int check, int was); public int unsee(); public int which(int what);"
                + " public int lost(int x, boolean upper); public long seed(long v); public int drawn(int m);"
                + " public int keep(int slot); public int again(int slot); }");
        Set<String> found = new TreeSet<>();
        for (Method m : LoopGuesses.class.getDeclaredMethods()) {
            if (!Modifier.isPrivate(m.getModifiers())) {
                holds(m + " is public and nothing else", m.getModifiers() == Modifier.PUBLIC);
                holds(m + " declares no exception", m.getExceptionTypes().length == 0);
                StringBuilder types = new StringBuilder();
                for (Class<?> type : m.getParameterTypes()) {
                    types.append(types.length() == 0 ? "" : ", ").append(type.getName());
                }
                found.add(m.getReturnType().getName() + " " + m.getName() + "(" + types + ")");
            }
        }
        Testing.due("the methods of the document", documented().size(), 23);
        holds("the methods are " + documented() + ": " + found, found.equals(documented()));
    }

    private static void signatures() {
        Document.says("The constructor and the methods follow, a promise each: the signature, then what it does.");
        Testing.due("the constructor is promise 1", Document.signature(1).equals("LoopGuesses()") ? 1 : 0, 1);
        Set<String> promised = new TreeSet<>();
        for (int promise = 2; promise <= Document.PROMISES; promise++) {
            promised.add(bare(Document.signature(promise)));
        }
        holds("each method has a promise: " + promised, promised.equals(documented()));
        Testing.due("there is no other promise", Document.beginOf(Document.PROMISES + 1), Document.words().length());
    }
}
