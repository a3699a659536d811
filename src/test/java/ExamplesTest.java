import java.util.List;

/** The four examples of the document, call by call: written out here, and as they stand there. */
public final class ExamplesTest {
    /** How many calls each example has. */
    private static final int[] LENGTHS = {16, 16, 15, 16};

    public static void main(String[] args) {
        asWritten();
        loopWithoutGuesses();
        choiceAndIncompleteGuess();
        noProgram();
        startValueAndObservation();
        Testing.end();
    }

    private static void asWritten() {
        Document.says("Examples: Each of them begins with a new object; the results are given behind the calls.");
        for (int number = 1; number <= LENGTHS.length; number++) {
            List<String> calls = Document.example(number);
            Testing.due("the calls of example " + number, calls.size(), LENGTHS[number - 1]);
            LoopGuesses x = new LoopGuesses();
            for (String call : calls) {
                String[] sides = call.split(" = ");
                Testing.due(number + ": " + sides[0], Calls.answer(x, sides[0]), Long.parseLong(sides[1]));
            }
        }
    }

    private static void writes(LoopGuesses x, int... letters) {
        for (int i = 0; i < letters.length; i++) {
            Testing.due("write(" + letters[i] + ")", x.write(letters[i]), i + 1);
        }
    }

    private static void loopWithoutGuesses() {
        LoopGuesses x = new LoopGuesses();
        writes(x, 40, 97, 60, 50, 97, 43, 41, 33, 97, 61, 50);
        Testing.due("1: program()", x.program(), 3);
        Testing.due("1: about(5)", x.about(5), 0);
        Testing.due("1: about(6)", x.about(6), 0);
        Testing.due("1: check(0, 2)", x.check(0, 2), 300);
        Testing.due("1: check(0, 3)", x.check(0, 3), 300);
    }

    private static void choiceAndIncompleteGuess() {
        LoopGuesses x = new LoopGuesses();
        writes(x, 123, 97, 61, 49, 124, 98, 63, 125, 59, 97, 35);
        Testing.due("2: fault()", x.fault(), 11);
        Testing.due("2: write(48)", x.write(48), 12);
        Testing.due("2: program()", x.program(), 3);
        Testing.due("2: about(7)", x.about(7), 216);
        Testing.due("2: share(0, true)", x.share(0, true), 0);
    }

    private static void noProgram() {
        LoopGuesses x = new LoopGuesses();
        writes(x, 40, 98, 62, 99, 33, 97, 61);
        Testing.due("3: fault()", x.fault(), 7);
        Testing.due("3: write(59)", x.write(59), 8);
        Testing.due("3: fault()", x.fault(), 7);
        Testing.due("3: program()", x.program(), -3);
        Testing.due("3: wipe()", x.wipe(), 8);
        Testing.due("3: about(11)", x.about(11), 0);
        Testing.due("3: falls(0, 0)", x.falls(0, 0), -1);
        Testing.due("3: which(0)", x.which(0), 216);
    }

    private static void startValueAndObservation() {
        LoopGuesses x = new LoopGuesses();
        writes(x, 97, 61, 51, 33, 97, 35, 98);
        Testing.due("4: program()", x.program(), 2);
        Testing.due("4: begin(1, 3)", x.begin(1, 3), 6);
        Testing.due("4: about(8)", x.about(8), 0);
        Testing.due("4: check(0, 1)", x.check(0, 1), 6);
        Testing.due("4: check(0, 3)", x.check(0, 3), 330);
        Testing.due("4: undo()", x.undo(), 0);
        Testing.due("4: see(0, 1)", x.see(0, 1), 1);
        Testing.due("4: which(0)", x.which(0), 36);
        Testing.due("4: which(1)", x.which(1), 30);
    }
}
