/** The boundaries that the document names for states, flows and invariants, and promises 6 to 8. */
public final class BoundaryStatesTest {
    private static final int UNKNOWN = -1, BAD = -2, NONE = -9;
    private static final String LIMITS = "!a<1!a<1!a<1!a<1(a>0)(a>0)(a>0){|}{|}{|};a<1;a<1;a<1;a<1;a<1";

    public static void main(String[] args) {
        valuesOfStates();
        orderOfStates();
        increase();
        decrease();
        sixStates();
        longestPrograms();
        assumptions();
        checksThatFail();
        choices();
        beginning();
        whateverComesToALoop();
        noStateInALoop();
        loopsThatNeverOrAlwaysRun();
        bothWaysToALoop();
        holding();
        mostGuesses();
        reachedInALoop();
        provedAndSafe();
        nothingComesToACheck();
        aboutRange();
        aboutValues();
        loopRange();
        loopValues();
        checkRange();
        checkStates();
        Testing.end();
    }

    private static void due(String call, long got, long want) {
        Testing.due(call, got, want);
    }

    /** The states at the end from the start, by the invariants and really (without loops they are the same). */
    private static void atEnd(String text, int a, int b, int c, int number) {
        LoopGuesses x = Testing.withProgram(text);
        Testing.start(x, a, b, c);
        String from = text + " from " + a + b + c;
        due("about(7) of " + from, x.about(7), number);
        due("about(8) of " + from, x.about(8), number);
    }

    private static void goes(String text, int a, int b, int c, int goal) {
        atEnd(text, a, b, c, 1);
        LoopGuesses x = Testing.withProgram(text);
        Testing.start(x, a, b, c);
        due(text + " from " + a + b + c + " to " + goal, x.judge(1, 6000 + goal), NONE);
        String checked = text + "!a=" + goal / 100 + "!b=" + goal / 10 % 10 + "!c=" + goal % 10;
        LoopGuesses y = Testing.withProgram(checked);
        Testing.start(y, a, b, c);
        due("a run of " + checked + " from " + a + b + c, y.drawn(1), 0);
    }

    // ---- states

    private static void valuesOfStates() {
        Document.says("each with a value from 0 to 5");
        LoopGuesses x = new LoopGuesses();
        due("there are 216", x.which(0), 216);
        for (int state = 0; state <= 999; state++) {
            if (state % 250 == 0) {
                x = new LoopGuesses();
            }
            boolean is = state / 100 <= 5 && state / 10 % 10 <= 5 && state % 10 <= 5;
            due("judge(1, " + (6000 + state) + ")", x.judge(1, 6000 + state), is ? NONE : 0);
        }
        Document.says("it is written as a number of three digits, 100 * a + 10 * b + c");
        for (int i = 0; i < 216; i++) {
            if (i % 60 == 0) {
                x = new LoopGuesses();
            }
            Testing.start(x, i / 36, i / 6 % 6, i % 6);
            due("which(1)", x.which(1), 100 * (i / 36) + 10 * (i / 6 % 6) + i % 6);
        }
    }

    private static void smallest(String text, int want) {
        LoopGuesses x = Testing.withProgram(text);
        due("check(0, 2) of " + text, x.check(0, 2), want);
        due("check(0, 3) of " + text, x.check(0, 3), want);
    }

    private static void orderOfStates() {
        Document.says("States are compared by these numbers.");
        smallest("!a#a", 0);
        smallest("@a=5@b=5@c=5!a#a", 555);
        smallest("{a=0b=0c=5|a=0b=1c=0}!a#a", 5);
        smallest("{a=0b=1c=0|a=0b=0c=5}!a#a", 5);
        smallest("{a=0b=5c=5|a=1b=0c=0}!a#a", 55);
        smallest("{a=1b=0c=0|a=0b=5c=5}!a#a", 55);
        smallest("{a=4b=0c=0|a=3b=5c=5}!a#a", 355);
        smallest("{a=2b=3c=5|a=2b=4c=0}!a#a", 235);
        smallest("{a=2b=3c=5|a=2b=3c=4}!a#a", 234);
    }

    // ---- statements

    private static void increase() {
        Document.says("the variable is increased by 1, but not above 5");
        goes("a+", 0, 2, 2, 122);
        goes("a+", 4, 2, 2, 522);
        goes("a+", 5, 2, 2, 522);
        goes("b+", 2, 4, 5, 255);
        goes("b+", 2, 5, 5, 255);
        goes("b+", 2, 5, 0, 250);
        goes("c+", 2, 2, 4, 225);
        goes("c+", 2, 2, 5, 225);
        goes("c+", 5, 5, 5, 555);
        goes("c+c+c+c+c+c+", 0, 0, 0, 5);
        for (String text : new String[] {"a+", "b+", "c+"}) {
            atEnd(text, 6, 6, 6, 180);
        }
        atEnd("a+a+a+a+a+", 6, 6, 6, 36);
    }

    private static void decrease() {
        Document.says("the variable is decreased by 1, but not below 0");
        goes("a-", 5, 2, 2, 422);
        goes("a-", 1, 2, 2, 22);
        goes("a-", 0, 2, 2, 22);
        goes("b-", 2, 1, 5, 205);
        goes("b-", 2, 0, 5, 205);
        goes("b-", 2, 0, 0, 200);
        goes("c-", 2, 2, 1, 220);
        goes("c-", 2, 2, 0, 220);
        goes("c-", 0, 0, 0, 0);
        goes("c-c-c-c-c-c-", 5, 5, 5, 550);
        for (String text : new String[] {"a-", "b-", "c-"}) {
            atEnd(text, 6, 6, 6, 180);
        }
        atEnd("b-b-b-b-b-", 6, 6, 6, 36);
    }

    private static void sixStates() {
        Document.says("an assignment maps each state (v? to six states)");
        atEnd("a?", 3, 3, 3, 6);
        atEnd("a?b?", 3, 3, 3, 36);
        atEnd("a?b?c?", 3, 3, 3, 216);
        atEnd("a?a=0", 3, 3, 3, 1);
        for (int value = 0; value <= 5; value++) {
            atEnd("a?", value, 3, 3, 6);
            atEnd("b?", 3, value, 3, 6);
            atEnd("c?", 3, 3, value, 6);
        }
        LoopGuesses x = Testing.withProgram("b?");
        Testing.start(x, 3, 3, 3);
        for (int value = 0; value <= 9; value++) {
            due("b gets " + value, x.judge(1, 6303 + 10 * value), value <= 5 ? NONE : 0);
        }
        goes("a=b", 1, 4, 2, 442);
        goes("a=a", 1, 4, 2, 142);
        goes("a=c", 1, 4, 2, 242);
        goes("b=a", 1, 4, 2, 112);
        goes("b=c", 1, 4, 2, 122);
        goes("c=a", 1, 4, 2, 141);
        goes("c=b", 1, 4, 2, 144);
        goes("c=0", 1, 4, 2, 140);
        goes("c=5", 1, 4, 2, 145);
        atEnd("a=b", 6, 6, 6, 36);
        atEnd("a=5", 6, 6, 6, 36);
        atEnd("c=c", 6, 6, 6, 216);
    }

    /** As many statements, and as many terms, as a text has room for. */
    private static void longestPrograms() {
        Document.says("The text buffer holds at most 60 characters");
        goes20("b=1" + "a=0".repeat(17) + "a=4c=5", 415);
        goes20("b=1" + "a=0".repeat(14) + "a=1a=2a=3a=4c=5", 415);
        goes20("b=2a=bc=a".repeat(6) + "a=5b=a", 552);
        atEnd("@b=1" + "@a<4".repeat(13) + "@c=5", 6, 6, 6, 4);
        atEnd("a+b+c+".repeat(10), 0, 0, 0, 1);
        atEnd("a?b?c?".repeat(10), 0, 0, 0, 216);
    }

    private static void goes20(String text, int goal) {
        LoopGuesses x = Testing.withProgram(text);
        due("the characters of " + text, x.about(11), 60);
        due("the statements of " + text, x.program(), 20);
        due("by the invariants", x.about(7), 1);
        due("really", x.about(8), 1);
        due("the state", x.judge(1, 6000 + goal), NONE);
        due("a run", x.drawn(20), 0);
    }

    private static void assumptions() {
        Document.says("an assumption or a check lets those states pass in which its condition is true");
        for (String kind : new String[] {"@", "!"}) {
            atEnd(kind + "a<0", 6, 6, 6, 0);
            atEnd(kind + "a<1", 6, 6, 6, 36);
            atEnd(kind + "a<5", 6, 6, 6, 180);
            atEnd(kind + "a>5", 6, 6, 6, 0);
            atEnd(kind + "a>4", 6, 6, 6, 36);
            atEnd(kind + "a>0", 6, 6, 6, 180);
            atEnd(kind + "a=0", 6, 6, 6, 36);
            atEnd(kind + "a#5", 6, 6, 6, 180);
            atEnd(kind + "a=a", 6, 6, 6, 216);
            atEnd(kind + "a#a", 6, 6, 6, 0);
            atEnd(kind + "a<a", 6, 6, 6, 0);
            atEnd(kind + "a>b", 6, 6, 6, 90);
            atEnd(kind + "a<b", 5, 6, 6, 0);
            atEnd(kind + "a<b", 4, 6, 6, 6);
        }
        atEnd("@a#aa?b?c?", 6, 6, 6, 0);
    }

    private static void checksThatFail() {
        Document.says("if the condition is false, the check fails and execution does not go on");
        LoopGuesses x = Testing.withProgram("!a<2!a<2!a>0!a=1");
        due("the first check fails", x.check(0, 3), 200);
        due("the second one cannot any more", x.check(1, 3), NONE);
        due("the third one fails", x.check(2, 3), 0);
        due("the last one cannot", x.check(3, 3), NONE);
        int[] come = {216, 72, 72, 36};
        for (int check = 0; check < 4; check++) {
            due("check(" + check + ", 0)", x.check(check, 0), come[check]);
            due("check(" + check + ", 1)", x.check(check, 1), come[check]);
        }
    }

    private static void choices() {
        Document.says("in a choice the states pass through both sequences, and the results are united");
        atEnd("{|}", 6, 6, 6, 216);
        atEnd("{|}", 1, 1, 1, 1);
        atEnd("{a=0|a=1}", 6, 6, 6, 72);
        atEnd("{a=0|a=0}", 6, 6, 6, 36);
        atEnd("{@a#a|}", 6, 6, 6, 216);
        atEnd("{|@a#a}", 6, 6, 6, 216);
        atEnd("{@a#a|@a#a}", 6, 6, 6, 0);
        atEnd("{@a=0|@a=5}", 6, 6, 6, 72);
        atEnd("{{a=0|a=1}|{a=2|a=3}}", 5, 5, 5, 4);
        atEnd("{{{a=0|a=1}|a=2}|a=3}", 5, 5, 5, 4);
        atEnd("{a=0|{a=1|{a=2|a=3}}}", 5, 5, 5, 4);
        atEnd("{a=0|a=1}{b=0|b=1}{c=0|c=1}", 5, 5, 5, 8);
    }

    // ---- loops

    private static void beginning() {
        Document.says("to its beginning come all states that agree with the start");
        LoopGuesses x = Testing.withProgram("!a=a");
        int[] numbers = {216, 36, 6, 1};
        for (int given = 0; given <= 3; given++) {
            due("with " + given + " values, by the invariants", x.check(0, 0), numbers[given]);
            due("with " + given + " values, really", x.check(0, 1), numbers[given]);
            x.begin(given, 5);
        }
        Document.says("The start is, for each variable, a value or \"any\", written as 6 (initially any for all).");
        for (int variable = 0; variable < 3; variable++) {
            due("start(" + variable + ")", new LoopGuesses().start(variable), 6);
        }
        x.begin(0, 6);
        due("with a any again", x.check(0, 1), 6);
        x.begin(0, 0);
        due("with a 0", x.check(0, 1), 1);
    }

    private static void loops(LoopGuesses x, int loop, int guesses, int inside, int reached, int come) {
        int[] want = {guesses, inside, reached, come};
        for (int what = 0; what < 4; what++) {
            due("loop(" + loop + ", " + what + ")", x.loop(loop, what), want[what]);
        }
    }

    private static void whateverComesToALoop() {
        Document.says("In a loop are, whatever comes to it, all states (of all 216) in which all its assigned guesses are"
                + " true");
        // No state comes from ahead; all are in the loop all the same, and those with a < 5 come from its end.
        LoopGuesses x = Testing.withProgram("@a#a(a<5)");
        loops(x, 0, 0, 216, 0, 180);
        due("those with a = 5 pass on", x.about(7), 36);
        due("really none does", x.about(8), 0);
        LoopGuesses y = Testing.withProgram("(a<5)");
        Testing.start(y, 5, 5, 5);
        loops(y, 0, 0, 216, 1, 181);
        due("by the invariants", y.about(7), 36);
        due("really", y.about(8), 1);
        LoopGuesses z = Testing.withProgram("@a#a(a<5);a>0;a<3");
        loops(z, 0, 3, 72, 0, 72);
        due("a is 1 or 2 in the loop for ever", z.about(7), 0);
    }

    private static void noStateInALoop() {
        Document.says("The assigned guesses hold if, for each loop, each of its guesses is true in all states that come to the"
                + " loop.");
        // Nothing comes from ahead, nothing is in it by a<0, and so nothing comes from its end.
        LoopGuesses x = Testing.withProgram("@a#a(a<5a+)!a=0;a<0");
        loops(x, 0, 1, 0, 0, 0);
        due("nothing comes to the end", x.about(7), 0);
        due("the check is proved", x.about(5), 1);
        x.turn(0);
        loops(x, 0, 0, 216, 0, 180);
        due("those with a = 5 pass on", x.check(0, 0), 36);
        due("the check is not proved", x.about(5), 0);
        due("but it is safe", x.about(6), 1);
        // One state from ahead makes the guess false; the others with a > 0 come from the end then.
        LoopGuesses y = Testing.withProgram("(a<5a+);a<0");
        Testing.start(y, 0, 0, 0);
        loops(y, 0, 0, 216, 6, 181);
        // The last state from ahead that makes a guess true or false.
        LoopGuesses z = Testing.withProgram("(a<0);a<5;a>4");
        z.begin(0, 4);
        loops(z, 0, 1, 180, 36, 36);
        z.begin(0, 5);
        loops(z, 0, 2, 36, 36, 36);
        z.begin(0, 6);
        loops(z, 0, 0, 216, 216, 216);
    }

    private static void loopsThatNeverOrAlwaysRun() {
        Document.says("the states in which its condition is true pass through its statements, and the others pass on behind the"
                + " loop");
        LoopGuesses never = Testing.withProgram("(a<0a=0)!a=a");
        loops(never, 0, 0, 216, 216, 216);
        due("all pass on", never.check(0, 0), 216);
        due("really too", never.check(0, 1), 216);
        LoopGuesses always = Testing.withProgram("(a=aa=0)!a#a");
        loops(always, 0, 0, 216, 216, 216);
        due("none passes on", always.check(0, 0), 0);
        due("really neither", always.check(0, 1), 0);
        due("the check behind it is proved", always.about(5), 1);
        due("and safe", always.about(6), 1);
        due("the end is not reached", always.about(8), 0);
        LoopGuesses once = Testing.withProgram("(a>4a-);a>4;a#4");
        Testing.start(once, 5, 0, 0);
        // 400 comes from the end, so neither guess stays.
        loops(once, 0, 0, 216, 2, 37);
        due("really 400 is at the end", once.judge(1, 6400), NONE);
        due("and nothing else", once.about(8), 1);
    }

    private static void bothWaysToALoop() {
        Document.says("To a loop come the states from ahead of it and those from the end of its statements.");
        LoopGuesses x = Testing.withProgram("(a<3a+);a<4");
        Testing.start(x, 0, 0, 0);
        // From ahead 000; from the end those with 1 to 3 for a, whatever b and c are.
        loops(x, 0, 1, 144, 4, 109);
        x.begin(0, 4);
        // The guess is lost by 400; a goes from 0..2 to 1..3.
        loops(x, 0, 0, 216, 1, 109);
        x.begin(0, 3);
        loops(x, 0, 1, 144, 1, 108);
        LoopGuesses y = Testing.withProgram("(a<3(b<1b+)a+)");
        Testing.start(y, 0, 0, 0);
        // 000, 110, 210, 310 and inside 000, 010, 110, 210.
        due("really in the outer loop", y.loop(0, 2), 4);
        due("really in the inner loop", y.loop(1, 2), 4);
        due("to the inner loop by the invariants: a < 3, or b = 1", y.loop(1, 3), 108 + 18);
        due("to the outer loop: b > 0 and a > 0, and 000", y.loop(0, 3), 150 + 1);
    }

    private static void holding() {
        Document.says("The invariants are the assignment that holds and has the most guesses for each loop.");
        // a<b needs b>4 in the same loop, which needs nothing; without it both go.
        LoopGuesses x = Testing.withProgram("a=0b=5(a<4a+);a<b;b>4;a<5");
        loops(x, 0, 7, 30, 30, 30);
        x.turn(1);
        due("a<b stays by a<4 in the loop no more", x.loop(0, 0), 4);
        x.turn(1);
        x.turn(2);
        due("a<4 and b>4 keep a<b", x.loop(0, 0), 3);
        // Guesses that keep one another are kept, though nothing proves them one by one.
        LoopGuesses y = Testing.withProgram("a=1b=1(c<5a=bb=a);a=1;b=1");
        due("both", y.loop(0, 0), 3);
        y.turn(0);
        due("b=1 alone is kept by a=b", y.loop(0, 0), 2);
        y.turn(0);
        y.turn(1);
        due("a=1 alone is not", y.loop(0, 0), 0);
    }

    private static void mostGuesses() {
        Document.says("(There is such an assignment, because the union of assignments that hold, loop by loop, holds.)");
        LoopGuesses x = Testing.withProgram(LIMITS);
        for (int loop = 0; loop < 3; loop++) {
            loops(x, loop, 31, 36, 36, 36);
        }
        for (int guess = 0; guess < 5; guess++) {
            x.turn(guess);
        }
        for (int loop = 0; loop < 3; loop++) {
            // All are in the loop; those with a > 0 come back to it, those with a = 0 pass on.
            loops(x, loop, 0, 216, 36, 216);
        }
        // Each round takes one guess away: the last falls only behind all others.
        LoopGuesses y = Testing.withProgram("(a=aa=bb=cc=0);a>0;b>0;c>0");
        Testing.start(y, 1, 1, 1);
        due("c>0 falls first, then b>0, then a>0", y.loop(0, 0), 0);
        LoopGuesses z = Testing.withProgram("(a=aa=bb=cc=1);a>0;b>0;c>0");
        Testing.start(z, 1, 1, 1);
        due("none falls", z.loop(0, 0), 7);
    }

    private static void reachedInALoop() {
        Document.says("here, in a loop are exactly the states that come to it, from ahead of it and from the end of its"
                + " statements, again and again");
        LoopGuesses x = Testing.withProgram("(a=a{a+|{b+|c+}})");
        Testing.start(x, 0, 0, 0);
        due("all states in the end", x.loop(0, 2), 216);
        due("none behind", x.about(8), 0);
        // One state after the other, the longest way: c counts, then b, then a.
        LoopGuesses y = Testing.withProgram("(a#a)(c=c{@c<5c+|@c=5c=0{@b<5b+|@b=5b=0a+}})");
        Testing.start(y, 0, 0, 0);
        due("216 steps", y.loop(1, 2), 216);
        due("000 alone in the first loop", y.loop(0, 2), 1);
        LoopGuesses z = Testing.withProgram("(c=c{@c<5c+|@c=5c=0{@b<5b+|@b=5b=0@a<5a+}})");
        Testing.start(z, 5, 5, 5);
        due("the last one alone", z.loop(0, 2), 1);
        z.begin(2, 4);
        due("the last two", z.loop(0, 2), 2);
        z.begin(0, 0);
        z.begin(1, 0);
        z.begin(2, 1);
        due("all but one", z.loop(0, 2), 215);
    }

    // ---- checks

    private static void provedAndSafe() {
        Document.says("A check is proved if its condition is true in all states that come to it by the invariants.");
        LoopGuesses x = Testing.withProgram("a=0(b<5b+)!a=0;a<2;a<1");
        due("proved by a<1", x.about(5), 1);
        x.turn(1);
        due("not by a<2", x.about(5), 0);
        due("one plane too many comes", x.check(0, 2), 150);
        Document.says("It is safe if its condition is true in all reached states there.");
        due("safe", x.about(6), 1);
        LoopGuesses y = Testing.withProgram("!a<5");
        due("not safe by 500", y.about(6), 0);
        y.begin(0, 4);
        due("safe from 4", y.about(6), 1);
        y.begin(0, 5);
        due("not safe from 5", y.about(6), 0);
    }

    private static void nothingComesToACheck() {
        Document.says("A check is proved if its condition is true in all states that come to it");
        LoopGuesses x = Testing.withProgram("@a#a!a<0!a<0!a<0!a<0");
        due("all are proved", x.about(5), 15);
        due("all are safe", x.about(6), 15);
        for (int check = 0; check < 4; check++) {
            due("check(" + check + ", 0)", x.check(check, 0), 0);
            due("check(" + check + ", 1)", x.check(check, 1), 0);
            due("check(" + check + ", 2)", x.check(check, 2), NONE);
            due("check(" + check + ", 3)", x.check(check, 3), NONE);
        }
        due("nothing comes to the end", x.about(7), 0);
        due("nothing is reached there", x.about(8), 0);
    }

    // ---- promises 6 to 8

    private static void aboutRange() {
        Document.says("BAD if what is not 0 to 11");
        LoopGuesses x = Testing.withProgram("a+");
        due("about(-1)", x.about(-1), BAD);
        due("about(0)", x.about(0), 0);
        due("about(11)", x.about(11), 2);
        due("about(12)", x.about(12), BAD);
        due("about(MIN)", x.about(Integer.MIN_VALUE), BAD);
        due("about(MAX)", x.about(Integer.MAX_VALUE), BAD);
    }

    /** The least and the greatest that each number can be. */
    private static void aboutValues() {
        Document.says("0: the number of checks; 1: of loops; 2: of choices; 3: of guesses; 4: the set of guesses that are"
                + " switched off");
        LoopGuesses x = Testing.withProgram(LIMITS);
        int[] most = {4, 3, 3, 5};
        for (int what = 0; what < 4; what++) {
            due("about(" + what + ")", x.about(what), most[what]);
            due("about(" + what + ") of nothing", new LoopGuesses().about(what), 0);
        }
        int off = 0;
        for (int guess = 0; guess < 5; guess++) {
            due("about(4)", x.about(4), off);
            x.turn(guess);
            off |= 1 << guess;
        }
        due("about(4) of all", x.about(4), 31);
        Document.says("5: the set of checks that are proved; 6: the set of checks that are safe");
        x.begin(0, 0);
        due("about(5) of all", x.about(5), 15);
        due("about(6) of all", x.about(6), 15);
        LoopGuesses none = Testing.withProgram("!a<4!a<3!a<2!a<1");
        due("about(5) of none", none.about(5), 0);
        due("about(6) of none", none.about(6), 0);
        none.begin(0, 3);
        due("about(5) of the first", none.about(5), 1 + 4 + 8);
        none.begin(0, 1);
        due("about(5) of all but the last", none.about(5), 7);
        Document.says("7: the number of states that come to the end of the program by the invariants; 8: the number of states"
                + " that are reached at the end");
        atEnd("", 6, 6, 6, 216);
        atEnd("", 5, 5, 5, 1);
        atEnd("!a#a", 6, 6, 6, 0);
        LoopGuesses far = Testing.withProgram("a=0b=0c=0(a#a)");
        due("about(7) of all", far.about(7), 216);
        due("about(8) of one", far.about(8), 1);
        Document.says("9: the number of acts that can be undone; 10: the number of observations; 11: the number of characters of"
                + " the text buffer");
        due("about(9)", x.about(9), 6);
        due("about(10)", x.about(10), 0);
        due("about(11)", x.about(11), 60);
    }

    private static void loopRange() {
        Document.says("UNKNOWN if there is no such loop; BAD if what is not 0 to 3");
        for (int loops = 0; loops <= 3; loops++) {
            LoopGuesses x = Testing.withProgram("(a<1)".repeat(loops));
            for (int loop = -1; loop <= 4; loop++) {
                boolean is = loop >= 0 && loop < loops;
                due("loop(" + loop + ", 1) of " + loops, x.loop(loop, 1), is ? 216 : UNKNOWN);
                due("loop(" + loop + ", -1) of " + loops, x.loop(loop, -1), is ? BAD : UNKNOWN);
                due("loop(" + loop + ", 4) of " + loops, x.loop(loop, 4), is ? BAD : UNKNOWN);
            }
            due("loop(MIN, 0)", x.loop(Integer.MIN_VALUE, 0), UNKNOWN);
            due("loop(MAX, 0)", x.loop(Integer.MAX_VALUE, 0), UNKNOWN);
        }
        LoopGuesses x = Testing.withProgram("(a<1)");
        due("loop(0, MIN)", x.loop(0, Integer.MIN_VALUE), BAD);
        due("loop(0, MAX)", x.loop(0, Integer.MAX_VALUE), BAD);
        due("loop(0, 0)", x.loop(0, 0), 0);
        due("loop(0, 3)", x.loop(0, 3), 216);
    }

    private static void loopValues() {
        Document.says("0: the set of guesses that the invariants assign to it; 1: the number of states in it by the invariants;"
                + " 2: the number of states that are reached in it; 3: the number of states that come to it by the"
                + " invariants");
        loops(Testing.withProgram("@a#a(a<1);a<0;b<0;c<0;a>5;b>5"), 0, 31, 0, 0, 0);
        loops(Testing.withProgram("(a<1);a=a;b=b;c=c;a<b;a>b"), 0, 7, 216, 216, 216);
        loops(Testing.withProgram("(a<1)"), 0, 0, 216, 216, 216);
        loops(Testing.withProgram("a=0b=0c=0(a=a);a=0;b=0;c=0;a=b;b=c"), 0, 31, 1, 1, 1);
    }

    private static void checkRange() {
        Document.says("UNKNOWN if there is no such check; BAD if what is not 0 to 3; NONE if there is no such state");
        for (int checks = 0; checks <= 4; checks++) {
            LoopGuesses x = Testing.withProgram("!a=a".repeat(checks));
            for (int check = -1; check <= 5; check++) {
                boolean is = check >= 0 && check < checks;
                String of = " of " + checks;
                due("check(" + check + ", -1)" + of, x.check(check, -1), is ? BAD : UNKNOWN);
                due("check(" + check + ", 0)" + of, x.check(check, 0), is ? 216 : UNKNOWN);
                due("check(" + check + ", 1)" + of, x.check(check, 1), is ? 216 : UNKNOWN);
                due("check(" + check + ", 2)" + of, x.check(check, 2), is ? NONE : UNKNOWN);
                due("check(" + check + ", 3)" + of, x.check(check, 3), is ? NONE : UNKNOWN);
                due("check(" + check + ", 4)" + of, x.check(check, 4), is ? BAD : UNKNOWN);
            }
            due("check(MIN, 0)", x.check(Integer.MIN_VALUE, 0), UNKNOWN);
            due("check(MAX, 0)", x.check(Integer.MAX_VALUE, 0), UNKNOWN);
        }
        LoopGuesses x = Testing.withProgram("!a=a");
        due("check(0, MIN)", x.check(0, Integer.MIN_VALUE), BAD);
        due("check(0, MAX)", x.check(0, Integer.MAX_VALUE), BAD);
    }

    private static void checkStates() {
        Document.says("0: the number of states that come to it by the invariants; 1: the number of states that are reached"
                + " there");
        LoopGuesses w = Testing.withProgram("a=0b=0c=0(a#a)!a=0@a#a!a=0");
        due("check(0, 0) of all", w.check(0, 0), 216);
        due("check(0, 1) of one", w.check(0, 1), 1);
        due("check(1, 0) of none", w.check(1, 0), 0);
        due("check(1, 1) of none", w.check(1, 1), 0);
        Document.says("2: the smallest state that comes to it by the invariants and in which its condition is false; 3: the"
                + " smallest state that is reached there and in which its condition is false");
        // The last state of all is the only one that makes it false.
        LoopGuesses x = Testing.withProgram("@a=5@b=5!c<5");
        due("check(0, 2)", x.check(0, 2), 555);
        due("check(0, 3)", x.check(0, 3), 555);
        x.begin(2, 4);
        due("check(0, 2) from c = 4", x.check(0, 2), NONE);
        due("check(0, 3) from c = 4", x.check(0, 3), NONE);
        LoopGuesses y = Testing.withProgram("a=5b=5c=5(a<1)!c<5;a>4;b>4;c>4");
        due("check(0, 2) by three guesses", y.check(0, 2), 555);
        y.turn(1);
        due("check(0, 2) by two guesses", y.check(0, 2), 505);
        y.turn(2);
        due("check(0, 2) by one guess", y.check(0, 2), 505);
        y.turn(0);
        due("check(0, 2) by none: a is not below 1", y.check(0, 2), 105);
        due("check(0, 3)", y.check(0, 3), 555);
    }
}
