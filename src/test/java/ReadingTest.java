/**
 * The sentences of the document that no other test quotes, from its first line to the end of the description: what
 * it is, states, conditions, statements, and what comes to the places of a program.
 */
public final class ReadingTest {
    private static final int NONE = -9;

    public static void main(String[] args) {
        whatItIs();
        states();
        conditions();
        whatStandsForWhat();
        assignment();
        anyValue();
        upAndDown();
        assumption();
        assertion();
        loop();
        choice();
        assigned();
        throughStatements();
        inLoops();
        reached();
        Testing.end();
    }

    private static void due(String call, long got, long want) {
        Testing.due(call, got, want);
    }

    private static void part(String name, int top, int bottom, int wantTop, int wantBottom) {
        due(name + ", numerator", top, wantTop);
        due(name + ", denominator", bottom, wantBottom);
    }

    // ---- what it is

    private static void whatItIs() {
        Document.says("Inference of loop invariants from candidate conditions, as by the Houdini algorithm. A small program over"
                + " three variables, with assertions, loops and nondeterministic choices, is read from a text together with"
                + " candidate conditions (guesses).");
        LoopGuesses x = Testing.withProgram("a=0(a<3a+)!a=3!b=0;a<4;b=0;a>0");
        x.begin(1, 0);
        Document.says("The class finds the greatest set of guesses that are invariants of each loop, tells which assertions are"
                + " proved by them and which are really safe, the smallest failing states, the fewest guesses that prove as"
                + " much, the share of each guess (Shapley value), the start states that agree with observations, and the"
                + " probability that all is proved if guesses are lost; and it runs the program with random choices.");
        due("a<4 and b=0 are invariants, a>0 is not", x.loop(0, 0), 3);
        due("both assertions are proved", x.about(5), 3);
        due("both are safe", x.about(6), 3);
        due("the fewest guesses", x.fewest(0), 2);
        due("they are a<4 and b=0", x.fewest(1), 3);
        part("the share of a<4", x.share(0, true), x.share(0, false), 1, 1);
        part("the share of b=0", x.share(1, true), x.share(1, false), 1, 1);
        part("the share of a>0", x.share(2, true), x.share(2, false), 0, 1);
        part("neither is lost by 2 / 10", x.lost(2, true), x.lost(2, false), 16, 25);
        due("a run from b = 0 ends well", x.drawn(20), 0);
        x.turn(1);
        due("without b=0 the first assertion alone is proved", x.about(5), 1);
        due("it is really safe all the same", x.about(6), 3);
        due("the smallest failing state by the invariants", x.check(1, 2), 310);
        due("there is really none", x.check(1, 3), NONE);
        x.begin(1, 1);
        due("the smallest one that is really reached", x.check(1, 3), 310);
        due("each run fails then", x.drawn(20), 20);
        x.begin(1, 6);
        x.see(1, 1);
        due("the start states from which it could fail", x.which(0), 180);
        due("the smallest of them", x.which(1), 10);
    }

    // ---- states and conditions

    private static void states() {
        Document.says("A state consists of the three values; it is written as a number of three digits, 100 * a + 10 * b + c.");
        LoopGuesses x = new LoopGuesses();
        x.begin(0, 4);
        due("one value is not a state yet", x.which(0), 36);
        x.begin(1, 0);
        due("nor are two", x.which(0), 6);
        x.begin(2, 3);
        due("three are", x.which(0), 1);
        due("it is written as 403", x.which(1), 403);
        due("and reached as 403", x.judge(1, 6403), NONE);
        due("not as 304", x.judge(1, 6304), 0);
        Document.says("There are three variables a, b and c, numbered 0, 1, 2, each with a value from 0 to 5.");
        LoopGuesses y = Testing.withProgram("!a=1!b=2!c=3");
        Testing.start(y, 1, 2, 3);
        due("a is 0, b is 1 and c is 2", y.about(6), 7);
        due("judge numbers them so too", new LoopGuesses().judge(4, 1004110512006450L), NONE);
        due("no other state comes from there", new LoopGuesses().judge(4, 1004110512006540L), 3);
    }

    private static void fault(String text, int want) {
        LoopGuesses x = new LoopGuesses();
        Testing.writeAll(x, text);
        due("fault() of " + text, x.fault(), want);
    }

    private static void conditions() {
        Document.says("A condition is a variable, one of the signs < = > # (less than, equal to, greater than, different from),"
                + " and a term.");
        // A condition stands behind each of these.
        for (String open : new String[] {"@", "!", "(", ";"}) {
            String close = open.equals("(") ? ")" : "";
            for (String condition : new String[] {"a<0", "b=5", "c>a", "a#b", "b<b", "c#c"}) {
                fault(open + condition + close, NONE);
            }
            fault(open, 1);
            fault(open + "a", 2);
            fault(open + "a<", 3);
            fault(open + "1<a", 1);
            fault(open + "<a1", 1);
            fault(open + "a1", 2);
            fault(open + "a+", 2);
            fault(open + "a<=1", 3);
            fault(open + "a##", 3);
            fault(open + "a<12", 4);
            fault(open + "a<b<c", 4);
        }
        due("a<c from 103", endOf("@a<c", 103), 103);
        due("a<c from 303", endOf("@a<c", 303), NONE);
        due("a=c from 303", endOf("@a=c", 303), 303);
        due("a=c from 304", endOf("@a=c", 304), NONE);
        due("a>c from 403", endOf("@a>c", 403), 403);
        due("a>c from 303", endOf("@a>c", 303), NONE);
        due("a#c from 403", endOf("@a#c", 403), 403);
        due("a#c from 303", endOf("@a#c", 303), NONE);
    }

    private static void whatStandsForWhat() {
        Document.says("In the following v stands for a variable, t for a term, C for a condition and S for a sequence of"
                + " statements (possibly empty).");
        fault("1=a", 0);
        fault("1+", 0);
        fault("1-", 0);
        fault("1?", 0);
        fault("a=b+", 3);
        fault("a=b-b?", 3);
        fault("@a=b+", 4);
        fault("@a+", 2);
        fault("!a?", 2);
        fault("(a+)", 2);
        fault("()", 1);
        fault("(a<1b<1)", 5);
        fault("{a<1|}", 2);
        fault("{|;a<1}", 2);
        fault("{;a<1|}", 1);
        fault("(a<1;a<1)", 4);
        fault(";a+", 2);
        for (String s : new String[] {"", "a=1", "a+b-c?", "@a<1!b>2", "(c#3)", "{|}", "(a<1{b+|(c<2)})"}) {
            fault("(b=4" + s + ")", NONE);
            fault("{" + s + "|}", NONE);
            fault("{|" + s + "}", NONE);
            fault(s, NONE);
        }
    }

    // ---- statements

    /** A new object whose start is this state. */
    private static LoopGuesses from(String text, int state) {
        LoopGuesses x = Testing.withProgram(text);
        Testing.start(x, state / 100, state / 10 % 10, state % 10);
        return x;
    }

    /** The one state that is reached at the end, NONE if there is none, -100 if there are several. */
    private static int endOf(String text, int state) {
        LoopGuesses x = from(text, state);
        if (x.about(8) != 1) {
            return x.about(8) == 0 ? NONE : -100;
        }
        for (int n = 0; n <= 555; n++) {
            if (n % 250 == 0) {
                x = from(text, state);
            }
            if (x.judge(1, 6000 + n) == NONE) {
                return n;
            }
        }
        return -100;
    }

    private static void assignment() {
        Document.says("The statements are: v=t the variable gets the value of the term");
        due("a=b", endOf("a=b", 142), 442);
        due("b=a", endOf("b=a", 142), 112);
        due("c=a", endOf("c=a", 142), 141);
        due("b=3", endOf("b=3", 142), 132);
        due("c=0", endOf("c=0", 142), 140);
        due("a=a", endOf("a=a", 142), 142);
        due("one behind the other", endOf("a=bb=a", 142), 442);
        due("an exchange by the third", endOf("c=aa=bb=c", 142), 411);
    }

    private static void anyValue() {
        Document.says("v? the variable gets any value");
        for (int variable = 0; variable < 3; variable++) {
            LoopGuesses x = from((char) ('a' + variable) + "?", 333);
            int unit = new int[] {100, 10, 1}[variable];
            due("six states", x.about(8), 6);
            for (int value = 0; value < 6; value++) {
                due("with the value " + value, x.judge(1, 6000 + 333 + (value - 3) * unit), NONE);
            }
        }
    }

    private static void upAndDown() {
        Document.says("v+ the variable is increased by 1, but not above 5");
        int state = 24;
        for (int want : new int[] {124, 224, 324, 424, 524, 524}) {
            due("a+ from " + state, endOf("a+", state), want);
            state = want;
        }
        Document.says("v- the variable is decreased by 1, but not below 0");
        for (int want : new int[] {523, 522, 521, 520, 520}) {
            due("c- from " + state, endOf("c-", state), want);
            state = want;
        }
    }

    private static void assumption() {
        Document.says("@C an assumption: execution goes on only if the condition is true");
        due("it is true", endOf("@a=1b=0", 142), 102);
        due("it is false", endOf("@a=2b=0", 142), NONE);
        due("a run goes on", from("@a=1!b=0", 142).drawn(1), 1);
        due("a run does not go on", from("@a=2!b=0", 142).drawn(1), 2);
        LoopGuesses x = from("@a=2!b=0", 142);
        due("an assumption is no check", x.about(0), 1);
        due("nothing comes to the check behind it", x.check(0, 1), 0);
        due("so it is safe", x.about(6), 1);
    }

    private static void assertion() {
        Document.says("!C an assertion (a check): if the condition is false, the check fails and execution does not go on; at most"
                + " 4 in the program");
        due("it is true", endOf("!a=1b=0", 142), 102);
        due("it is false", endOf("!a=2b=0", 142), NONE);
        due("a run goes on", from("!a=1@b=0", 142).drawn(1), 2);
        due("a run does not go on", from("!a=2@b=0", 142).drawn(1), 1);
        LoopGuesses x = from("!a=2!b=0", 142);
        due("both are checks", x.about(0), 2);
        due("the first one fails at 142", x.check(0, 3), 142);
        due("nothing comes to the second one", x.check(1, 1), 0);
        due("so the second one is safe", x.about(6), 2);
    }

    private static void loop() {
        Document.says("(CS) a loop: as long as the condition is true, S is executed; at most 3 in the program");
        due("three times", endOf("(a<3a+b-)", 42), 312);
        due("once", endOf("(a<3a+b-)", 242), 332);
        due("never", endOf("(a<3a+b-)", 342), 342);
        due("a run of three times", from("(a<3a+b-)!b=0", 42).drawn(1), 1);
        due("a run that ends as it should", from("(a<3a+b-)!b=1!a=3", 42).drawn(1), 0);
        due("the condition is looked at ahead of the statements alone", endOf("(a=0a=1a=0a=2)", 42), 242);
        due("without end nothing comes behind it", endOf("(a=0)", 42), NONE);
        due("a loop in a loop", endOf("(a<2(c<5c+)a+c=0)", 44), 240);
    }

    private static void choice() {
        Document.says("{S|S} a choice: one of the two sequences is executed; at most 3 in the program");
        LoopGuesses x = from("{a=5|b=5}", 142);
        due("two states", x.about(8), 2);
        due("by the first sequence", x.judge(1, 6542), NONE);
        due("by the second sequence", x.judge(1, 6152), NONE);
        due("not by both", x.judge(1, 6552), 0);
        due("not by neither", x.judge(1, 6142), 0);
        due("the first one goes on alone", endOf("{a=5|b=5@b=4}", 142), 542);
        due("the second one goes on alone", endOf("{a=5@a=4|b=5}", 142), 152);
        due("both come to the same", endOf("{a=5|a=4a+}", 142), 542);
    }

    // ---- what comes where

    private static void assigned() {
        Document.says("Suppose that a set of active guesses is assigned to each loop. Then sets of states come to the places of the"
                + " program like this: to its beginning come all states that agree with the start.");
        LoopGuesses x = Testing.withProgram("(a<5a+);a<2;a<5;a<4;a=a");
        due("from any state: no guess is true but the last", x.loop(0, 0), 8);
        x.begin(0, 0);
        // With a<2 in the loop, a+ leads to 2; with a<5, to 5; with a<4, to 4; with a=a, whatever is true.
        due("a<2 falls", x.falls(0, 1), 0);
        due("a<5 falls", x.falls(0, 2), 1);
        due("a<4 falls", x.falls(0, 4), 2);
        due("a<2 and a<5: from a<2 a comes to 2", x.falls(0, 3), 0);
        due("a=a does not fall", x.falls(0, 8), NONE);
        due("no guess does not fall", x.falls(0, 0), NONE);
        x.turn(3);
        due("one that is not active cannot be assigned", x.falls(0, 8), -2);
        x.turn(3);
        // Beside a<4, which keeps a=4 out of the loop, a<5 is true of all that comes.
        due("a<4 falls, a<5 does not", x.falls(0, 6), 2);
        x.begin(0, 5);
        due("from 5 a<2 is false at once", x.falls(0, 1), 0);
        due("from 5 all come to the beginning", x.loop(0, 2), 36);
    }

    private static void throughStatements() {
        Document.says("Through statements they pass as described: an assignment maps each state (v? to six states); an assumption"
                + " or a check lets those states pass in which its condition is true; in a choice the states pass through"
                + " both sequences, and the results are united.");
        end("a=0", 36);
        end("a=0b?", 36);
        end("a=0b=0", 6);
        end("a=0b=0c?", 6);
        end("a=0b=0c=0", 1);
        end("a=0b=0c=0a?", 6);
        end("a=0b=0c=0a?b?", 36);
        end("a=0b?c+", 30);
        end("@a<2", 72);
        end("!a<2", 72);
        end("@a<2!b<2", 24);
        end("!a<2@b<2!c=b", 4);
        end("{a=0|a=1}", 72);
        end("{a=0|a=0}", 36);
        end("{@a<3|@a>1}", 216);
        end("{@a<2|@a>2}", 180);
        end("{!a#a|@a#a}", 0);
    }

    /** Without a loop the states by the invariants are the reached ones. */
    private static void end(String text, int number) {
        LoopGuesses x = Testing.withProgram(text);
        due("about(7) of " + text, x.about(7), number);
        due("about(8) of " + text, x.about(8), number);
    }

    private static void inLoops() {
        Document.says("In a loop are, whatever comes to it, all states (of all 216) in which all its assigned guesses are true; of"
                + " those, the states in which its condition is true pass through its statements, and the others pass on"
                + " behind the loop.");
        LoopGuesses x = Testing.withProgram("a=0(a<3b=0)!a=0");
        due("all states are in it", x.loop(0, 1), 216);
        // 36 from ahead, and 18 with a<3 and b=0 from the end, of which 6 are among the 36.
        due("what comes to it", x.loop(0, 3), 48);
        due("the others, with a from 3 on, come to the check", x.check(0, 0), 108);
        due("the smallest of them", x.check(0, 2), 300);
        due("none of them goes on", x.about(7), 0);
    }

    private static void reached() {
        Document.says("The reached states are those that really come to each place: here, in a loop are exactly the states that"
                + " come to it, from ahead of it and from the end of its statements, again and again.");
        LoopGuesses x = Testing.withProgram("a=0(a<3b=0)!a=0");
        due("reached in it", x.loop(0, 2), 36);
        due("nothing is reached behind it", x.check(0, 1), 0);
        due("nor at the end", x.about(8), 0);
        due("so the check is safe", x.about(6), 1);
        due("though it is not proved", x.about(5), 0);
        LoopGuesses y = Testing.withProgram("a=0b=0c=0(c<5{a+|b+}c+)");
        // Behind k rounds a + b is k and c is k, so that 1 + 2 + 3 + 4 + 5 + 6 states are in the loop.
        due("again and again", y.loop(0, 2), 21);
        due("the last ones go on", y.about(8), 6);
    }
}
