/** The boundaries that the document names for texts: what a program is, and promises 1 to 5. */
public final class BoundaryTextTest {
    private static final int BAD = -2, LATE = -3, FULL = -4, NONE = -9;

    private static final String NAMES = "abc";
    private static final String SIGNS = "<=>#";
    private static final String TERMS = "012345abc";
    /** What a statement can begin with. */
    private static final String FIRST = NAMES + "@!({";
    /** All limits at once: 4 checks, 3 loops, 3 choices and 5 guesses are just 60 characters. */
    private static final String WHOLE = "!a<1!a<1!a<1!a<1(a>0)(a>0)(a>0){|}{|}{|};a<1;a<1;a<1;a<1;a<1";

    public static void main(String[] args) {
        newObject();
        codes();
        sixtyCharacters();
        emptyBuffer();
        values();
        variablesAndSigns();
        noSpaces();
        emptySequences();
        numberOfGuesses();
        numberOfChecks();
        numberOfLoops();
        numberOfChoices();
        allLimitsAtOnce();
        numbering();
        everyLetterEverywhere();
        firstWrongCharacter();
        incomplete();
        lengthDoesNotMatter();
        programWithFault();
        numberOfStatements();
        bufferStays();
        programSetsBack();
        programLeaves();
        Testing.end();
    }

    private static void due(String call, long got, long want) {
        Testing.due(call, got, want);
    }

    private static LoopGuesses withText(String text) {
        LoopGuesses x = new LoopGuesses();
        Testing.writeAll(x, text);
        return x;
    }

    /** A text with this fault, which program() tells too. */
    private static void fault(String text, int want) {
        LoopGuesses x = withText(text);
        due("fault() of " + text, x.fault(), want);
        due("program() of " + text + " is LATE", x.program() == LATE ? 1 : 0, want == NONE ? 0 : 1);
    }

    private static void statements(String text, int want) {
        due("program() of " + text, withText(text).program(), want);
    }

    // ---- promise 1

    private static void newObject() {
        Document.says("Creates an object with a program without statements and guesses, an empty text buffer, no acts and"
                + " observations, the seed 0, and empty slots.");
        LoopGuesses x = new LoopGuesses();
        for (int what = 0; what <= 6; what++) {
            due("about(" + what + ")", x.about(what), 0);
        }
        for (int what = 9; what <= 11; what++) {
            due("about(" + what + ")", x.about(what), 0);
        }
        due("turn(0)", x.turn(0), -1);
        due("wipe()", x.wipe(), 0);
        due("undo()", x.undo(), LATE);
        due("unsee()", x.unsee(), 0);
        due("again(0)", x.again(0), LATE);
        due("again(1)", x.again(1), LATE);
        due("seed(1)", x.seed(1), 0);
        Document.says("Initially the program has no statements and no guesses.");
        LoopGuesses y = new LoopGuesses();
        due("all states come to the end", y.about(7), 216);
        due("all states are reached there", y.about(8), 216);
        due("a run ends at once", y.drawn(20), 0);
        due("loop(0, 0)", y.loop(0, 0), -1);
        due("check(0, 0)", y.check(0, 0), -1);
        due("the empty text is a program too", y.fault(), NONE);
        due("program() of it", y.program(), 0);
    }

    // ---- promises 2 and 3

    private static void codes() {
        Document.says("BAD if letter is out of range");
        LoopGuesses x = new LoopGuesses();
        due("write(-1)", x.write(-1), BAD);
        due("write(0)", x.write(0), 1);
        due("write(1)", x.write(1), 2);
        due("write(254)", x.write(254), 3);
        due("write(255)", x.write(255), 4);
        due("write(256)", x.write(256), BAD);
        due("write(256 + 97)", x.write(256 + 97), BAD);
        due("write(65536 + 97)", x.write(65536 + 97), BAD);
        due("write(MIN)", x.write(Integer.MIN_VALUE), BAD);
        due("write(MAX)", x.write(Integer.MAX_VALUE), BAD);
        due("about(11)", x.about(11), 4);
    }

    private static void sixtyCharacters() {
        Document.says("The text buffer holds at most 60 characters with the codes 0 to 255.");
        LoopGuesses x = new LoopGuesses();
        for (int i = 1; i <= 60; i++) {
            due("write(), the " + i + "th", x.write(i % 2 == 1 ? 'b' : '+'), i);
        }
        Document.says("FULL if it has 60");
        due("write('='), the 61st", x.write('='), FULL);
        due("write(0), the 61st", x.write(0), FULL);
        due("write(255), the 61st", x.write(255), FULL);
        due("about(11)", x.about(11), 60);
        due("the text is the one of 60 characters", x.program(), 30);
        Document.says("BAD if letter is out of range; FULL if it has 60");
        due("write(256), the 61st", x.write(256), BAD);
        due("write(-1), the 61st", x.write(-1), BAD);
        Document.says("Returns how many characters it had.");
        due("wipe() of 60", x.wipe(), 60);
        due("wipe() of none", x.wipe(), 0);
        due("write() then", x.write('a'), 1);
        due("wipe() of 1", x.wipe(), 1);
        for (int i = 1; i <= 60; i++) {
            due("write(), the " + i + "th again", x.write('@'), i);
        }
        due("write(), the 61st again", x.write('@'), FULL);
    }

    private static void emptyBuffer() {
        Document.says("Empties the text buffer.");
        LoopGuesses x = Testing.withProgram("a=3;a=3");
        Testing.writeAll(x, "%");
        due("fault()", x.fault(), 7);
        due("wipe()", x.wipe(), 8);
        due("about(11)", x.about(11), 0);
        due("fault() of nothing", x.fault(), NONE);
        due("the program stays", x.about(8), 36);
        due("its guesses stay", x.about(3), 1);
        Testing.writeAll(x, "a+");
        due("nothing is left of the old text", x.program(), 1);
        due("nor of its guesses", x.about(3), 0);
    }

    // ---- what a program is

    private static void values() {
        Document.says("A term is a variable or a digit 0 to 5.");
        fault("a=0", NONE);
        fault("a=5", NONE);
        fault("a=6", 2);
        fault("a=9", 2);
        fault("a=/", 2);
        fault("@b#0", NONE);
        fault("@b#5", NONE);
        fault("@b#6", 3);
        fault("@b#/", 3);
        fault("a=15", 3);
    }

    private static void variablesAndSigns() {
        Document.says("There are three variables a, b and c, numbered 0, 1, 2");
        fault("`+", 0);
        fault("a+", NONE);
        fault("c+", NONE);
        fault("d+", 0);
        fault("A+", 0);
        fault("a=`", 2);
        fault("a=c", NONE);
        fault("a=d", 2);
        fault("!`<1", 1);
        fault("!d<1", 1);
        Document.says("one of the signs < = > # (less than, equal to, greater than, different from)");
        fault("@a;1", 2);
        fault("@a<1", NONE);
        fault("@a=1", NONE);
        fault("@a>1", NONE);
        fault("@a?1", 2);
        fault("@a#1", NONE);
        fault("@a\"1", 2);
        fault("@a$1", 2);
    }

    private static void noSpaces() {
        Document.says("There are no spaces.");
        fault(" ", 0);
        fault(" a+", 0);
        fault("a +", 1);
        fault("a= 1", 2);
        fault("a+ ", 2);
        fault("@ a<1", 1);
        fault("@a <1", 2);
        fault("@a< 1", 3);
        fault("@a<1 ", 4);
        fault("(a<1 )", 4);
        fault("{ |}", 1);
        fault("{| }", 2);
        fault("; a<1", 1);
        fault(";a<1 ", 4);
        fault("a+\n", 2);
    }

    private static void emptySequences() {
        Document.says("A program is written as a sequence of statements (possibly empty), followed by 0 to 5 guesses");
        statements("", 0);
        statements(";a<1", 0);
        statements("a+", 1);
        statements("a+;a<1", 1);
        Document.says("S for a sequence of statements (possibly empty)");
        statements("(a<1)", 1);
        statements("(a<1a+)", 2);
        statements("{|}", 1);
        statements("{a+|}", 2);
        statements("{|a+}", 2);
        statements("{a+|a+}", 3);
        fault("{}", 1);
        fault("()", 1);
        fault("{||}", 2);
    }

    private static void numberOfGuesses() {
        Document.says("followed by 0 to 5 guesses, each of which is a semicolon and a condition");
        for (int guesses = 0; guesses <= 5; guesses++) {
            LoopGuesses x = withText("a+" + ";a<1".repeat(guesses));
            due("program() with " + guesses + " guesses", x.program(), 1);
            due("about(3) with " + guesses + " guesses", x.about(3), guesses);
        }
        fault("a+" + ";a<1".repeat(5) + ";", 22);
        fault("a+" + ";a<1".repeat(6), 22);
        fault(";a<1".repeat(6), 20);
        fault(";a<1;", 5);
        fault(";a<1;;", 5);
        fault(";a<1b+", 4);
    }

    private static void numberOfChecks() {
        Document.says("if the condition is false, the check fails and execution does not go on; at most 4 in the program");
        for (int checks = 0; checks <= 4; checks++) {
            LoopGuesses x = withText("!a<1".repeat(checks));
            due("program() with " + checks + " checks", x.program(), checks);
            due("about(0) with " + checks + " checks", x.about(0), checks);
        }
        fault("!a<1".repeat(4) + "!", 16);
        fault("!a<1".repeat(5), 16);
        fault("(a<1!a<1!a<1){!a<1|!a<1}", NONE);
        fault("(a<1!a<1!a<1){!a<1|!a<1!", 23);
        fault("!a<1!a<1!a<1!a<1@a<1", NONE);
        fault("!a<1!a<1!a<1!a<1@a<1!a<1", 20);
    }

    private static void numberOfLoops() {
        Document.says("as long as the condition is true, S is executed; at most 3 in the program");
        for (int loops = 0; loops <= 3; loops++) {
            LoopGuesses x = withText("(a<1)".repeat(loops));
            due("program() with " + loops + " loops", x.program(), loops);
            due("about(1) with " + loops + " loops", x.about(1), loops);
            LoopGuesses y = withText("(a<1".repeat(loops) + ")".repeat(loops));
            due("program() with " + loops + " loops in another", y.program(), loops);
            due("about(1) with " + loops + " loops in another", y.about(1), loops);
        }
        fault("(a<1)".repeat(3) + "(", 15);
        fault("(a<1)".repeat(4), 15);
        fault("(a<1".repeat(4), 12);
        fault("(a<1{(a<1)|(a<1)}", 17);
        fault("(a<1{(a<1)|(a<1)(", 16);
        fault("(a<1".repeat(3) + ")))", NONE);
        fault("(a<1".repeat(3) + "))))", 15);
    }

    private static void numberOfChoices() {
        Document.says("one of the two sequences is executed; at most 3 in the program");
        for (int choices = 0; choices <= 3; choices++) {
            LoopGuesses x = withText("{|}".repeat(choices));
            due("program() with " + choices + " choices", x.program(), choices);
            due("about(2) with " + choices + " choices", x.about(2), choices);
            LoopGuesses y = withText("{".repeat(choices) + "|}".repeat(choices));
            due("program() with " + choices + " choices in the first sequence", y.program(), choices);
            LoopGuesses z = withText("{|".repeat(choices) + "}".repeat(choices));
            due("program() with " + choices + " choices in the second sequence", z.program(), choices);
        }
        fault("{|}".repeat(3) + "{", 9);
        fault("{|}".repeat(4), 9);
        fault("{{{{", 3);
        fault("{|{|{|{", 6);
        fault("{{|}|{", 6);
        fault("{{|}|{|}}{", 9);
        fault("{|{|{|}}}", NONE);
        fault("{|{|{|}}}}", 9);
    }

    private static void allLimitsAtOnce() {
        Document.says("The text buffer holds at most 60 characters");
        LoopGuesses x = withText(WHOLE);
        due("about(11)", x.about(11), 60);
        due("fault()", x.fault(), NONE);
        due("program()", x.program(), 10);
        int[] numbers = {4, 3, 3, 5};
        for (int what = 0; what < 4; what++) {
            due("about(" + what + ") of it", x.about(what), numbers[what]);
        }
        due("the first check is not proved", x.about(5), 14);
        due("nor safe", x.about(6), 14);
        due("about(7) of it", x.about(7), 36);
        due("about(8) of it", x.about(8), 36);
        due("a 61st character", x.write(';'), FULL);
        due("all guesses are given to the last loop", x.loop(2, 0), 31);
    }

    private static void numbering() {
        Document.says("Checks, loops and guesses are numbered from 0 in the order in which they begin in the text.");
        // The loop of a begins ahead of the loop of b in it; from 000 the way leads over 120 to 123.
        LoopGuesses x = Testing.withProgram("(a<1(b<2!b<2b+)a+!b>1)(c<3!a>0c+)!c>2;a#0;c<4");
        Testing.start(x, 0, 0, 0);
        due("000 and 120 come to the loop 0", x.loop(0, 2), 2);
        due("000, 010 and 020 come to the loop 1", x.loop(1, 2), 3);
        due("120 to 123 come to the loop 2", x.loop(2, 2), 4);
        due("000 and 010 come to the check 0", x.check(0, 1), 2);
        due("120 comes to the check 1", x.check(1, 1), 1);
        due("120 to 122 come to the check 2", x.check(2, 1), 3);
        due("123 comes to the check 3", x.check(3, 1), 1);
        due("the guess 1 in the loop 0", x.loop(0, 0), 2);
        due("the guess 1 in the loop 1", x.loop(1, 0), 2);
        due("both guesses in the loop 2", x.loop(2, 0), 3);
    }

    /** At each place of a text, which letters of all 256 can come next. */
    private static void everyLetterEverywhere() {
        Document.says("the first character by which the text cannot be a program, whatever came after it");
        for (String text : new String[] {"", "a+", "b-", "c?", "a=1", "a=b", "a=a", "@a<1", "!a<1", "(a<1)", "{|}"}) {
            letters(text, FIRST + ";", "");
        }
        letters("a", "=", "+-?");
        letters("a=", "", TERMS);
        for (String text : new String[] {"@", "!", "(", ";", "{!", "(a<1@", "{|(", "a+;a<1;"}) {
            letters(text, NAMES, "");
            letters(text + "b", SIGNS, "");
        }
        for (String text : new String[] {"@c<", "!c=", ";c>", "a+;a<1;c#"}) {
            letters(text, "", TERMS);
        }
        letters("(c<", TERMS, "");
        letters("(a<1", FIRST, ")");
        letters("(a<1a+", FIRST, ")");
        letters("(a<1{|}", FIRST, ")");
        letters("(a<1(a<1", FIRST + ")", "");
        letters("{", FIRST + "|", "");
        letters("{a+", FIRST + "|", "");
        letters("{{|}", FIRST + "|", "");
        letters("{(a<1)", FIRST + "|", "");
        letters("{(a<1", FIRST + ")", "");
        letters("(a<1{", FIRST + "|", "");
        letters("{|", FIRST, "}");
        letters("{|a+", FIRST, "}");
        letters("{|{|}", FIRST, "}");
        letters("(a<1{|", FIRST + "}", "");
        letters("{|{", FIRST + "|", "");
        letters(";a<1", ";", "");
        letters(";a<1;a<1;a<1;a<1", ";", "");
        letters(";a<1;a<1;a<1;a<1;a<1", "", "");
        letters("!a<1".repeat(3), FIRST + ";", "");
        letters("!a<1".repeat(4), NAMES + "@({;", "");
        letters("(a<1)".repeat(2), FIRST + ";", "");
        letters("(a<1)".repeat(3), NAMES + "@!{;", "");
        letters("(a<1".repeat(3), NAMES + "@!{)", "");
        letters("{|}".repeat(2), FIRST + ";", "");
        letters("{|}".repeat(3), NAMES + "@!(;", "");
        letters("{|".repeat(3), NAMES + "@!(}", "");
    }

    /** Behind the text may come the letters that leave it incomplete (or whole, as it was) and those that end it. */
    private static void letters(String text, String open, String ends) {
        boolean whole = withText(text).fault() == NONE;
        due(text + " is whole or incomplete", whole ? text.length() : withText(text).fault(), text.length());
        for (int letter = 0; letter <= 255; letter++) {
            int want = text.length();
            if (ends.indexOf(letter) >= 0) {
                want = NONE;
            } else if (open.indexOf(letter) >= 0) {
                want = text.length() + 1;
            }
            LoopGuesses x = withText(text);
            x.write(letter);
            due("fault() of " + text + " with the letter " + letter, x.fault(), want);
        }
    }

    private static void firstWrongCharacter() {
        Document.says("The fault of a text is the index (from 0) of the first character by which the text cannot be a program,"
                + " whatever came after it");
        String[] texts = {"%", "a%", "a=%", "@a<1(a<1b?{|}%", ";a<1)", "!a<1!a<1!a<1!a<1!"};
        for (String text : texts) {
            LoopGuesses x = withText(text);
            int last = text.length() - 1;
            due("fault() of " + text, x.fault(), last);
            for (int i = text.length(); i < 60; i++) {
                x.write(";a<1)}".charAt(i % 6));
                due("fault() of " + text + " and more", x.fault(), last);
            }
            due("program()", x.program(), LATE);
        }
        fault("a+".repeat(29) + "a<", 59);
        fault("a+".repeat(29) + "<<", 58);
    }

    private static void incomplete() {
        Document.says("or the number of characters if the text is only incomplete");
        // 1 where the text up to there is a program: behind 0, 2, 3.. characters.
        String text = "a+b=0(a<1{b+|c=2}!a#0);a<1;b#c";
        String whole = "1010010000000000000000100010001";
        for (int length = 0; length <= text.length(); length++) {
            fault(text.substring(0, length), whole.charAt(length) == '1' ? NONE : length);
        }
        Document.says("NONE if it is a program");
        fault("", NONE);
        fault(WHOLE, NONE);
    }

    private static void lengthDoesNotMatter() {
        Document.says("(the greatest length of the buffer does not matter for this)");
        String most = "a+".repeat(29);
        fault(most + "a=", 60);
        fault(most + "{|", 60);
        fault(most + "(a", 60);
        fault(most + ";a", 60);
        fault(most + "a", 59);
        fault(most + "a+", NONE);
        fault("a+".repeat(28) + "(a<1", 60);
        fault("a+".repeat(28) + "{{{|", 60);
        fault("{".repeat(3) + "a+".repeat(28) + "!", 60);
    }

    // ---- promise 5

    private static void programWithFault() {
        Document.says("LATE if the text has a fault");
        for (String text : new String[] {"a", "%", "a+%", "(a<1", ";", "a+".repeat(29) + "a=", ";a<1".repeat(6)}) {
            LoopGuesses x = Testing.withProgram("a=1!a=1;a=1");
            x.begin(2, 2);
            x.wipe();
            Testing.writeAll(x, text);
            due("program() of " + text, x.program(), LATE);
            due("the buffer stays", x.about(11), text.length());
            due("the program stays", x.about(0), 1);
            due("its guesses stay", x.about(3), 1);
            due("the start stays", x.start(2), 2);
            due("the acts stay", x.about(9), 1);
            due("the states at the end stay", x.about(8), 6);
        }
    }

    private static void numberOfStatements() {
        Document.says("Returns the number of statements, those within loops and choices included");
        statements("", 0);
        statements("a+", 1);
        statements("a+".repeat(29), 29);
        statements("a+".repeat(30), 30);
        statements("(a<1a+)", 2);
        statements("(a<1(a<1(a<1a+b-)c?)a=b)", 7);
        statements("{a+|b+}{{@a<1|!a<1}|c?}", 8);
        statements(";a<1;a<1", 0);
        statements("@a<1;a<1", 1);
        statements(WHOLE, 10);
    }

    private static void bufferStays() {
        Document.says("The buffer stays as it is.");
        LoopGuesses x = withText("a+");
        due("program()", x.program(), 1);
        due("about(11)", x.about(11), 2);
        due("program() again", x.program(), 1);
        due("write()", x.write('b'), 3);
        due("program() of a+b", x.program(), LATE);
        due("write()", x.write('-'), 4);
        due("program() of a+b-", x.program(), 2);
        due("wipe()", x.wipe(), 4);
    }

    private static LoopGuesses used() {
        LoopGuesses x = Testing.withProgram("!a=1!b=1;a=1;b=1");
        x.seed(-77);
        x.see(0, 1);
        x.see(1, 0);
        x.keep(0);
        Testing.start(x, 0, 5, 3);
        x.turn(0);
        x.turn(1);
        x.keep(1);
        return x;
    }

    private static void programSetsBack() {
        Document.says("The start is any for all variables then, no guess is switched off, no act can be undone, and the slots"
                + " are empty");
        LoopGuesses x = used();
        due("program()", x.program(), 2);
        for (int variable = 0; variable < 3; variable++) {
            due("start(" + variable + ")", x.start(variable), 6);
        }
        due("about(4)", x.about(4), 0);
        due("about(9)", x.about(9), 0);
        due("undo()", x.undo(), LATE);
        due("again(0)", x.again(0), LATE);
        due("again(1)", x.again(1), LATE);
    }

    private static void programLeaves() {
        Document.says("the observations and the seed stay");
        LoopGuesses x = used();
        x.program();
        due("about(10)", x.about(10), 2);
        due("a is not 1, so b cannot fail", x.which(0), 180);
        due("the smallest such", x.which(1), 0);
        due("seed(0)", x.seed(0), -77);
    }
}
