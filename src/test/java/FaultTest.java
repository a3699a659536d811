import java.util.Random;

/** Promises 4 and 5: the faults of texts, by hand and compared with the model's search for completions. */
public final class FaultTest {
    private static final int NONE = LoopGuesses.NONE;

    public static void main(String[] args) {
        wholePrograms();
        incomplete();
        wrongLetters();
        tooMany();
        longTexts();
        random();
        Testing.end();
    }

    private static void fault(String text, int want) {
        LoopGuesses x = new LoopGuesses();
        Testing.writeAll(x, text);
        Testing.due("fault() of " + text, x.fault(), want);
        if (want != NONE) {
            Testing.due("program() of " + text, x.program(), LoopGuesses.LATE);
        }
        Testing.due("characters of " + text, x.about(11), text.length());
    }

    private static void wholePrograms() {
        for (String text : new String[] {"", "a=b", "b=b", "c=5", "a+", "b-", "c?", "@a<0", "!b>c", "(a=a)", "{|}",
                "(a#1{b+|c-}b?)", "{(a<5a+)|{|}}", "(a<1(a<1(a<1{{{|}|}|})))", "{|{|{|(a<1(a<1(a<1)))}}}",
                ";a<1", ";a=a;b#c", "a+;a>0"}) {
            fault(text, NONE);
        }
    }

    private static void incomplete() {
        for (String text : new String[] {"a", "a=", "@", "!", "(", "{", "@a", "@a<", "(b", "(b>", "(b>c", "(b>ca+",
                "{a+", "{|", "{a+|b-", "{{|}|", ";", ";a", ";a<", "a+;b=1;", "(a<1(b<1)", "(a<1{|"}) {
            fault(text, text.length());
        }
    }

    private static void wrongLetters() {
        fault(" ", 0);
        fault("d+", 0);
        fault("A+", 0);
        fault("0=a", 0);
        fault("a<1", 1);
        fault("a =1", 1);
        fault("a=6", 2);
        fault("a=d", 2);
        fault("a=-1", 2);
        fault("a++", 2);
        fault("@1<a", 1);
        fault("@a+1", 2);
        fault("@a!b", 2);
        fault("@a<<", 3);
        fault("@a<6", 3);
        fault("()", 1);
        fault("(a<1|", 4);
        fault("(a<1}", 4);
        fault("(a<1;a<1", 4);
        fault(")", 0);
        fault("|", 0);
        fault("}", 0);
        fault("{}", 1);
        fault("{)", 1);
        fault("{||", 2);
        fault("{|;", 2);
        fault("{(a<1|", 5);
        fault(";a<1a+", 4);
        fault(";a<1 ", 4);
        fault(";;", 1);
        fault("a+,", 2);
        fault("" + (char) 0, 0);
        fault("a+" + (char) 255, 2);
        fault("a=" + (char) ('1' + 128), 2);
    }

    private static void tooMany() {
        fault("!a<1!a<1!a<1!a<1", NONE);
        fault("!a<1!a<1!a<1!a<1!", 16);
        fault("(a<1(a<1(a<1)))", NONE);
        fault("(a<1(a<1(a<1(", 12);
        fault("{{{|}|}|}", NONE);
        fault("{|{|{|{", 6);
        fault(";a<1;a<1;a<1;a<1;a<1", NONE);
        fault(";a<1;a<1;a<1;a<1;a<1;", 20);
    }

    private static void longTexts() {
        StringBuilder text = new StringBuilder();
        for (int i = 0; i < 30; i++) {
            text.append("a+");
        }
        fault(text.toString(), NONE);
        fault(text.substring(0, 59) + "(", 59);
        // The room for the end of the loop is not there, but it does not count.
        fault(text.substring(0, 56) + "(a<1", 60);
        fault(text.substring(0, 58) + "{(", 60);
        fault(text.substring(0, 59) + "=", 60);
    }

    private static void random() {
        Texts texts = new Texts(new Random(20));
        for (int i = 0; i < 4000; i++) {
            String text = texts.nearly();
            fault(text, Model.faultOf(text));
        }
    }
}
