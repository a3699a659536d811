/** What the tests share: counting wrong answers, and writing a text into an object. */
final class Testing {
    private static int asked = 0;
    private static int wrong = 0;
    private static String sentence = "";

    private Testing() {
    }

    static void due(String call, long got, long want) {
        asked++;
        if (got != want) {
            wrong++;
            System.out.println(sentence + call + " answered " + got + ", due is " + want);
        }
    }

    /** The sentence of the document that the next answers are due by. */
    static void under(String newSentence) {
        sentence = "\"" + newSentence + "\": ";
    }

    static void writeAll(LoopGuesses x, String text) {
        for (int i = 0; i < text.length(); i++) {
            x.write(text.charAt(i));
        }
    }

    /** A new object with the text as its program. */
    static LoopGuesses withProgram(String text) {
        LoopGuesses x = new LoopGuesses();
        writeAll(x, text);
        if (x.program() < 0) {
            due("program() of " + text, x.fault(), LoopGuesses.NONE);
        }
        return x;
    }

    static void start(LoopGuesses x, int a, int b, int c) {
        x.begin(0, a);
        x.begin(1, b);
        x.begin(2, c);
    }

    /** Ends the test, with the exit code 1 if an answer was wrong. */
    static void end() {
        System.out.println(asked + " answers, " + wrong + " of them not as due");
        if (wrong != 0 || asked == 0) {
            System.exit(1);
        }
    }
}
