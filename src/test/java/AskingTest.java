import java.util.ArrayList;
import java.util.List;

/**
 * Asking changes nothing, and no answer depends on what was asked before: each question behind each other one, and
 * behind each change, is answered as by an object that was never asked anything. And objects know nothing of each other.
 */
public final class AskingTest {
    private static final String[] TEXTS = {
        "a=0b=1(a<3a+{b=a|})!a=3!b<4(c<bc+)!c<4;a<4;b<4;a<b;c=0",
        "(a<2(b<3b+)!b=3a+){!a=2|c?}@c<4!c#3;b<4;a<3;c<4;a=2;b=3",
        "!a<1!a<1!a<1!a<1(a>0)(a>0)(a>0){|}{|}{|};a<1;a<1;a<1;a<1;a<1",
    };
    private static final String OTHER = "b=2(b<4b+)!b=4!a<5;b<5;a<5";
    private static final List<String> QUESTIONS = questions();

    public static void main(String[] args) {
        Document.says("Nothing is promised beyond the answers and state changes described above");
        for (String text : TEXTS) {
            eachBehindEach(text);
            eachBehindChanges(text);
            twoObjects(text);
        }
        Testing.end();
    }

    private static List<String> questions() {
        List<String> all = new ArrayList<>();
        add(all, "fault()", "judge(4, 1002200130004001)", "judge(3, 120541006305)", "judge(4, 2001210150005111)");
        for (int what = 0; what < 12; what++) {
            all.add("about(" + what + ")");
        }
        for (int what = 0; what < 4; what++) {
            add(all, "loop(0, " + what + ")", "loop(1, " + what + ")", "check(0, " + what + ")", "check(2, " + what + ")");
        }
        for (int k = 0; k < 3; k++) {
            add(all, "start(" + k + ")", "share(" + k + ", true)", "share(" + k + ", false)", "falls(0, " + (1 << k) + ")");
        }
        add(all, "falls(0, 0)", "falls(1, 3)", "fewest(0)", "fewest(1)", "which(0)", "which(1)");
        add(all, "lost(0, true)", "lost(3, true)", "lost(3, false)", "lost(10, false)");
        return all;
    }

    private static void add(List<String> all, String... more) {
        for (String question : more) {
            all.add(question);
        }
    }

    /** Some acts, observations and a slot; the same for each object, in some 70 calls. */
    private static LoopGuesses used(String text) {
        LoopGuesses x = Testing.withProgram(text);
        x.begin(1, 2);
        x.keep(0);
        x.begin(1, 6);
        x.turn(2);
        x.see(0, 0);
        x.see(1, 0);
        return x;
    }

    private static void same(String call, LoopGuesses x, String question, long want) {
        Testing.due(call, Calls.answer(x, question), want);
    }

    /** The answer of an object that is asked this alone. */
    private static long alone(String text, String change, String question) {
        LoopGuesses x = used(text);
        change(x, change);
        return Calls.answer(x, question);
    }

    private static void eachBehindEach(String text) {
        long[] want = new long[QUESTIONS.size()];
        for (int i = 0; i < want.length; i++) {
            want[i] = alone(text, "", QUESTIONS.get(i));
        }
        for (int first = 0; first < want.length; first++) {
            LoopGuesses x = used(text);
            for (int i = 0; i < want.length; i++) {
                same(text + ": " + QUESTIONS.get(first), x, QUESTIONS.get(first), want[first]);
                same(text + ": " + QUESTIONS.get(i) + " behind " + QUESTIONS.get(first), x, QUESTIONS.get(i), want[i]);
            }
        }
    }

    private static final String[] CHANGES = {
        "begin(0, 0)", "begin(1, 2)", "begin(2, 5)", "turn(0)", "turn(1)", "turn(2)", "undo()", "again(0)", "see(0, 1)",
        "unsee()", "wipe()", "write(97)", "program()", "drawn(3)", "another program", "the same program",
    };

    private static void change(LoopGuesses x, String change) {
        if (change.equals("another program")) {
            x.wipe();
            Testing.writeAll(x, OTHER);
            x.program();
        } else if (change.equals("the same program")) {
            x.wipe();
            x.program();
            Testing.writeAll(x, TEXTS[0]);
            x.program();
        } else if (!change.isEmpty()) {
            Calls.answer(x, change);
        }
    }

    private static void eachBehindChanges(String text) {
        for (String change : CHANGES) {
            long[] want = new long[QUESTIONS.size()];
            for (int i = 0; i < want.length; i++) {
                want[i] = alone(text, change, QUESTIONS.get(i));
            }
            for (int first = 0; first < want.length; first++) {
                String asked = QUESTIONS.get(first);
                LoopGuesses x = used(text);
                Calls.answer(x, asked);
                change(x, change);
                same(text + ": " + asked + " ahead of " + change + " and behind it", x, asked, want[first]);
                for (int i = 0; i < want.length; i++) {
                    String question = QUESTIONS.get(i);
                    same(text + ": " + question + " behind " + asked + " and " + change, x, question, want[i]);
                }
            }
        }
    }

    /** Two objects that are used in turns answer as they would alone. */
    private static void twoObjects(String text) {
        LoopGuesses x = used(text);
        LoopGuesses y = new LoopGuesses();
        y.seed(77);
        for (int i = 0; i < QUESTIONS.size(); i++) {
            String question = QUESTIONS.get(i);
            same(text + ": " + question + " of the first of two", x, question, alone(text, "", question));
            same(question + " of the second of two", y, question, Calls.answer(new LoopGuesses(), question));
        }
        x.drawn(1);
        Testing.due("the seed of the second of two", y.seed(0), 77);
        Testing.due("the slot of the second of two", y.again(0), LoopGuesses.LATE);
        Testing.due("the acts of the second of two", y.undo(), LoopGuesses.LATE);
    }
}
