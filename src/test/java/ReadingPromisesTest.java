import java.math.BigInteger;

/** The sentences of the promises that no other test quotes, from promise 2 to promise 24. */
public final class ReadingPromisesTest {
    private static final int UNKNOWN = -1, BAD = -2, LATE = -3, FULL = -4, NONE = -9;
    /** The first guess proves the first check, as the others do together; the last check is always proved. */
    private static final String ZEROS = "a=0b=0(c#c)!a=0!b=0!a=b;a=0;b=0;a=b";

    public static void main(String[] args) {
        write();
        fault();
        program();
        about();
        loop();
        check();
        startAndBegin();
        turn();
        undo();
        falls();
        fewest();
        judge();
        share();
        see();
        unsee();
        which();
        lost();
        seed();
        drawn();
        slots();
        Testing.end();
    }

    private static void due(String call, long got, long want) {
        Testing.due(call, got, want);
    }

    // ---- the program

    private static void write() {
        Document.says(2, "- `letter`: its code, 0 to 255");
        LoopGuesses x = new LoopGuesses();
        for (int letter = 0; letter <= 255; letter++) {
            if (letter % 60 == 0) {
                x.wipe();
            }
            due("write(" + letter + ")", x.write(letter), letter % 60 + 1);
        }
        Document.says(2, "Returns how many characters the buffer has then; BAD if letter is out of range; FULL if it has 60.");
        x.wipe();
        for (int number = 1; number <= 60; number++) {
            due("write(256) behind " + (number - 1), x.write(256), BAD);
            due("write(97), the " + number + "th", x.write(97), number);
            due("about(11)", x.about(11), number);
        }
        due("write(97), the 61st", x.write(97), FULL);
        Document.says(2, "Appends a character to the text buffer.");
        LoopGuesses y = new LoopGuesses();
        y.write('a');
        y.write('=');
        y.write('2');
        due("a=2 in this order", y.fault(), NONE);
        due("it is a statement", y.program(), 1);
        y.write('c');
        y.write('-');
        due("more behind it", y.program(), 2);
        due("it stands behind what was there", y.judge(2, 12016200), NONE);
    }

    private static void fault() {
        Document.says(4, "Returns the fault of the text in the buffer.");
        LoopGuesses x = Testing.withProgram("a+");
        x.wipe();
        String text = "a=0;a<1x";
        int[] want = {1, 2, NONE, 4, 5, 6, NONE, 7};
        due("fault() of nothing", x.fault(), NONE);
        for (int i = 0; i < want.length; i++) {
            x.write(text.charAt(i));
            due("fault() of " + text.substring(0, i + 1), x.fault(), want[i]);
        }
        Document.says(4, "Returns the index; NONE if it is a program.");
        x.write(';');
        due("fault() stays where it is", x.fault(), 7);
        due("fault() once more", x.fault(), 7);
        due("the program is another", x.about(3), 0);
        x.wipe();
        x.write(')');
        due("fault() at the first character", x.fault(), 0);
    }

    private static void program() {
        Document.says(5, "Makes the text in the buffer the program.");
        LoopGuesses x = new LoopGuesses();
        Testing.writeAll(x, "!a=1(b<2){|};c=3;c=4");
        for (int what = 0; what < 4; what++) {
            due("about(" + what + ") ahead of program()", x.about(what), 0);
        }
        due("program()", x.program(), 3);
        due("a check", x.about(0), 1);
        due("a loop", x.about(1), 1);
        due("a choice", x.about(2), 1);
        due("two guesses", x.about(3), 2);
        x.wipe();
        Testing.writeAll(x, "a=2");
        due("what is written is not the program yet", x.about(3), 2);
        due("program()", x.program(), 1);
        due("then it is", x.about(3), 0);
        due("and does what it says", x.about(8), 36);
        Document.says(5, "Returns the number of statements, those within loops and choices included; LATE if the text has a fault.");
        x.write('a');
        due("program() of an incomplete text", x.program(), LATE);
        x.write('a');
        due("program() of a text that can be none", x.program(), LATE);
        due("the program is as it was", x.about(8), 36);
        due("one in each other", statements("(a<1{b+|(c<2)})"), 4);
        due("one behind the other", statements("a+b-c?a=1@a<1!b<1"), 6);
        due("guesses are no statements", statements(";a<1;b<1"), 0);
    }

    private static int statements(String text) {
        LoopGuesses x = new LoopGuesses();
        Testing.writeAll(x, text);
        return x.program();
    }

    private static void about() {
        Document.says(6, "Returns a number of the program.");
        LoopGuesses x = Testing.withProgram("a=0(a<2a+)!a=2!b<3{|};a<3;a<2;c=c");
        x.begin(1, 1);
        x.turn(1);
        x.turn(2);
        x.see(1, 1);
        // Without the guess b<3 the loop lets all b through; really b stays 1.
        int[] want = {2, 1, 1, 3, 6, 1, 3, 18, 6, 3, 1, 33};
        Document.says(6, "Returns the value; BAD if what is not 0 to 11.");
        for (int what = -3; what < 15; what++) {
            boolean is = what >= 0 && what < want.length;
            due("about(" + what + ")", x.about(what), is ? want[what] : BAD);
        }
    }

    private static void four(String of, int[] got, int... want) {
        for (int what = 0; what < 4; what++) {
            due(of + ", " + what + ")", got[what], want[what]);
        }
    }

    private static void fourOfLoop(LoopGuesses x, int loop, int... want) {
        four("loop(" + loop, new int[] {x.loop(loop, 0), x.loop(loop, 1), x.loop(loop, 2), x.loop(loop, 3)}, want);
    }

    private static void loop() {
        Document.says(7, "Describes a loop. - `loop`: the loop");
        LoopGuesses x = Testing.withProgram("a=0(a<1a+)(a<2a+)(a<3a+);a<2;a<3;a<4");
        fourOfLoop(x, 0, 7, 72, 72, 72);
        // To the second one come 1 from ahead, and 1 and 2 from its end.
        fourOfLoop(x, 1, 6, 108, 72, 72);
        // By a<4 alone 0 is in the third one too, so that 1 comes to it, which really does not.
        fourOfLoop(x, 2, 4, 144, 72, 108);
        Document.says(7, "Returns the value; UNKNOWN if there is no such loop; BAD if what is not 0 to 3.");
        due("loop(3, 0)", x.loop(3, 0), UNKNOWN);
        due("loop(-1, 0)", x.loop(-1, 0), UNKNOWN);
        due("loop(2, 4)", x.loop(2, 4), BAD);
        due("loop(2, -1)", x.loop(2, -1), BAD);
        due("loop(3, 4)", x.loop(3, 4), UNKNOWN);
    }

    private static void fourOfCheck(LoopGuesses x, int check, int... want) {
        four("check(" + check, new int[] {x.check(check, 0), x.check(check, 1), x.check(check, 2), x.check(check, 3)}, want);
    }

    private static void check() {
        Document.says(8, "Describes a check. - `check`: the check");
        LoopGuesses x = Testing.withProgram("(a<1a+)!a=1!b=2!c#3");
        x.begin(0, 0);
        fourOfCheck(x, 0, 180, 36, 200, NONE);
        fourOfCheck(x, 1, 36, 36, 100, 100);
        fourOfCheck(x, 2, 6, 6, 123, 123);
        Document.says(8, "Returns the number or the state; UNKNOWN if there is no such check; BAD if what is not 0 to 3; NONE if"
                + " there is no such state.");
        due("check(3, 0)", x.check(3, 0), UNKNOWN);
        due("check(-1, 0)", x.check(-1, 0), UNKNOWN);
        due("check(2, 4)", x.check(2, 4), BAD);
        due("check(2, -1)", x.check(2, -1), BAD);
        due("check(3, 4)", x.check(3, 4), UNKNOWN);
        LoopGuesses y = Testing.withProgram("@a#a!a=1");
        fourOfCheck(y, 0, 0, 0, NONE, NONE);
        LoopGuesses z = Testing.withProgram("!a#a");
        due("the state 0 is a state, and not none", z.check(0, 2), 0);
    }

    // ---- doings

    private static void startAndBegin() {
        LoopGuesses x = new LoopGuesses();
        for (int variable = -2; variable <= 4; variable++) {
            boolean is = variable >= 0 && variable <= 2;
            Document.says(9, "Returns the start of a variable. - `variable`: the variable, 0 to 2");
            due("start(" + variable + ")", x.start(variable), is ? 6 : UNKNOWN);
            Document.says(10, "- `variable`: the variable, 0 to 2");
            due("begin(" + variable + ", 2)", x.begin(variable, 2), is ? 6 : UNKNOWN);
            due("start(" + variable + ")", x.start(variable), is ? 2 : UNKNOWN);
            Document.says(10, "- `v`: the new value, 0 to 5, or 6 for any");
            for (int v = -2; v <= 8; v++) {
                int was = v <= 0 ? 2 : v - 1;
                int want = v >= 0 && v <= 6 ? was : BAD;
                due("begin(" + variable + ", " + v + ")", x.begin(variable, v), is ? want : UNKNOWN);
            }
            due("start(" + variable + ")", x.start(variable), is ? 6 : UNKNOWN);
        }
        Document.says(9, "Returns the value, or 6 for any; UNKNOWN if there is no such variable.");
        x.begin(1, 0);
        due("start(0)", x.start(0), 6);
        due("start(1)", x.start(1), 0);
        due("start(2)", x.start(2), 6);
        Document.says(10, "Returns what it was before; UNKNOWN if there is no such variable; BAD if v is out of range.");
        due("begin(1, 5)", x.begin(1, 5), 0);
        due("begin(1, 5) again", x.begin(1, 5), 5);
        due("begin(3, 7)", x.begin(3, 7), UNKNOWN);
    }

    private static void turn() {
        Document.says(11, "Switches a guess off if it is active, or on if it is switched off. This is an act. - `guess`: the guess");
        LoopGuesses x = Testing.withProgram("(a<1);a=a;b=b");
        for (int guess = -1; guess <= 2; guess++) {
            boolean is = guess == 0 || guess == 1;
            due("turn(" + guess + ")", x.turn(guess), is ? 1 : UNKNOWN);
            due("the other one is an invariant", x.loop(0, 0), is ? 3 - (1 << guess) : 3);
            due("turn(" + guess + ") again", x.turn(guess), is ? 0 : UNKNOWN);
            due("both are", x.loop(0, 0), 3);
        }
        due("four acts", x.about(9), 4);
    }

    private static void undo() {
        Document.says(12, "Undoes the latest act that has not been undone. Returns how many more acts can be undone; LATE if there"
                + " is none to undo.");
        LoopGuesses x = Testing.withProgram(";a=a;b=b");
        x.begin(0, 1);
        x.turn(1);
        x.begin(0, 2);
        due("undo() of begin(0, 2)", x.undo(), 2);
        due("start(0)", x.start(0), 1);
        due("about(4)", x.about(4), 2);
        x.turn(0);
        due("undo() of turn(0)", x.undo(), 2);
        due("about(4)", x.about(4), 2);
        due("undo() of turn(1)", x.undo(), 1);
        due("about(4)", x.about(4), 0);
        due("start(0)", x.start(0), 1);
        due("undo() of begin(0, 1)", x.undo(), 0);
        due("start(0)", x.start(0), 6);
        due("undo() of nothing", x.undo(), LATE);
    }

    // ---- guesses

    private static void falls() {
        Document.says(13, "Checks guesses for a loop: they are assigned to this loop, and the guesses of the invariants to all"
                + " others. - `loop`: the loop");
        // The first loop ends with a = 2 by a<3 alone; the second one goes on to 4, which a<5 alone allows.
        LoopGuesses x = Testing.withProgram("a=0(a<2a+)(a<4a+);a<3;a<5");
        due("the invariants of the first one", x.loop(0, 0), 3);
        due("of the second one", x.loop(1, 0), 2);
        due("a<3 in the first one", x.falls(0, 1), NONE);
        due("a<3 in the second one", x.falls(1, 1), 0);
        due("a<5 in the second one, by a<3 in the first one", x.falls(1, 2), NONE);
        due("both in the second one", x.falls(1, 3), 0);
        due("what is tried is not kept", x.loop(1, 0), 2);
        Document.says(13, "UNKNOWN if there is no such loop; BAD if guesses contains a guess that does not exist or is switched off;"
                + " NONE if all of them are true there.");
        due("falls(2, 0)", x.falls(2, 0), UNKNOWN);
        due("falls(1, 4)", x.falls(1, 4), BAD);
        x.turn(0);
        due("falls(1, 1)", x.falls(1, 1), BAD);
        // Without a<3, what comes from the first loop is a = 2 to 4, by a<5.
        due("a<5 in the second one, by a<5 in the first one", x.falls(1, 2), NONE);
        x.turn(1);
        due("falls(1, 0)", x.falls(1, 0), NONE);
        due("falls(1, 2)", x.falls(1, 2), BAD);
    }

    private static void fewest() {
        Document.says(14, "Returns the value; BAD if what is out of range.");
        LoopGuesses x = Testing.withProgram(ZEROS);
        due("all are proved", x.about(5), 7);
        due("fewest(0)", x.fewest(0), 2);
        due("fewest(1)", x.fewest(1), 3);
        due("fewest(-1)", x.fewest(-1), BAD);
        due("fewest(2)", x.fewest(2), BAD);
        x.turn(0);
        due("fewest(0) without a=0", x.fewest(0), 2);
        due("fewest(1) without a=0", x.fewest(1), 6);
        x.turn(1);
        due("two are proved", x.about(5), 6);
        due("fewest(0) of a=b", x.fewest(0), 1);
        due("fewest(1) of a=b", x.fewest(1), 4);
        x.turn(2);
        due("one is proved", x.about(5), 4);
        due("fewest(0) of none", x.fewest(0), 0);
        due("fewest(1) of none", x.fewest(1), 0);
    }

    private static void judge() {
        Document.says(15, "Each is written as four decimal digits p q r s, the first one in the highest digits of row: 1, a variable,"
                + " 0, a value 0 to 6: its start becomes this value;");
        int[] unit = {100, 10, 1};
        for (int variable = 0; variable < 3; variable++) {
            LoopGuesses x = new LoopGuesses();
            Testing.start(x, 3, 3, 3);
            for (int value = 0; value < 10; value++) {
                long line = 1000 + 100 * variable + value;
                for (int digit = 0; digit < 6; digit++) {
                    long state = 6333 + (digit - 3) * unit[variable];
                    int want = value == digit || value == 6 ? NONE : 1;
                    due(line + " " + state, x.judge(2, 10000 * line + state), value > 6 ? 0 : want);
                }
            }
        }
        Document.says(15, "BAD if n or row is out of range; NONE if there is none.");
        LoopGuesses x = Testing.withProgram(ZEROS);
        due("four that stand", x.judge(4, 3001310132014001L), NONE);
        due("the last one does not stand", x.judge(4, 3001310132014000L), 3);
        due("two that do not: the first of them", x.judge(4, 3001310032004001L), 1);
        due("judge(0, 0)", x.judge(0, 0), BAD);
        due("judge(5, 0)", x.judge(5, 0), BAD);
        due("judge(1, -1)", x.judge(1, -1), BAD);
        due("judge(1, 9999)", x.judge(1, 9999), 0);
        due("judge(1, 10000)", x.judge(1, 10000), BAD);
        due("judge(4, 10000000000000000)", x.judge(4, 10000000000000000L), BAD);
    }

    private static void share() {
        Document.says(16, "Computes the share of a guess in what is proved: if the active guesses are switched on one after the"
                + " other, in a random order (all orders being equally probable), the mean number of checks that are proved"
                + " additionally when this guess is switched on. - `guess`: the guess - `upper`: as described at Errors");
        LoopGuesses x = Testing.withProgram(ZEROS);
        // None proves one check, each one two, each two of them all three: the first two of each order prove one each.
        for (int guess = -1; guess <= 3; guess++) {
            boolean is = guess >= 0 && guess < 3;
            due("share(" + guess + ", true)", x.share(guess, true), is ? 2 : UNKNOWN);
            due("share(" + guess + ", false)", x.share(guess, false), is ? 3 : UNKNOWN);
        }
        x.turn(1);
        for (int guess = 0; guess < 3; guess++) {
            due("share(" + guess + ", true) of two", x.share(guess, true), guess == 1 ? LATE : 1);
            due("share(" + guess + ", false) of two", x.share(guess, false), guess == 1 ? LATE : 1);
        }
    }

    // ---- seen

    private static void see() {
        Document.says(17, "Adds an observation about an unknown state: if this state alone were the start, a check could fail (that"
                + " is, a reached state there makes its condition false), or could not.");
        LoopGuesses x = Testing.withProgram("!a=0!b=0");
        due("see(1, 1)", x.see(1, 1), 1);
        due("a is 0 and b is not", x.which(0), 30);
        // The start is not the unknown state; the unknown state only has to agree with it.
        x.begin(0, 3);
        due("with a = 3 it could not fail", x.which(0), 0);
        x.begin(0, 6);
        x.begin(1, 4);
        due("with b = 4 it could", x.which(0), 6);
        due("see(0, 1) besides", x.see(0, 1), 2);
        due("not both can fail from one state", x.which(0), 0);
        Document.says(17, "- `check`: the check - `was`: 1 if the check could fail, 0 if not");
        for (int check = -1; check <= 2; check++) {
            for (int was = -1; was <= 2; was++) {
                LoopGuesses y = Testing.withProgram("!a=0!b=0");
                boolean is = check == 0 || check == 1;
                boolean said = was == 0 || was == 1;
                due("see(" + check + ", " + was + ")", y.see(check, was), is ? said ? 1 : BAD : UNKNOWN);
                int failing = check == 0 ? 180 : 30;
                due("which(0)", y.which(0), is && said ? was == 1 ? failing : 216 - failing : 216);
            }
        }
    }

    private static void unsee() {
        Document.says(18, "Removes all observations. Returns how many there were.");
        LoopGuesses x = Testing.withProgram("!a=0!b=0");
        for (int number = 0; number <= 6; number++) {
            for (int i = 0; i < number; i++) {
                x.see(0, 1);
            }
            due("about(10)", x.about(10), number);
            due("unsee()", x.unsee(), number);
            due("about(10) then", x.about(10), 0);
            due("all states agree then", x.which(0), 216);
        }
    }

    private static void which() {
        Document.says(19, "- `what`: 0: how many there are; 1: the smallest one");
        LoopGuesses x = Testing.withProgram("b+!a>b");
        x.see(0, 0);
        // a is above b + 1, and b = 5 stays: 2 0, 3 0, 3 1, 4 0 to 4 2, 5 0 to 5 3.
        due("which(0)", x.which(0), 60);
        due("which(1)", x.which(1), 200);
        x.begin(1, 2);
        due("which(0) of b = 2", x.which(0), 12);
        due("which(1) of b = 2", x.which(1), 420);
        x.begin(0, 3);
        due("which(0) of none", x.which(0), 0);
        due("which(1) of none", x.which(1), NONE);
        due("which(2)", x.which(2), BAD);
        due("which(-1)", x.which(-1), BAD);
        due("the smallest of all is 0", new LoopGuesses().which(1), 0);
    }

    // ---- chances

    private static void lost() {
        Document.says(20, "Computes the probability that all checks are proved if each active guess is lost (switched off) with the"
                + " probability x / 10, independently. - `x`: 0 to 10 - `upper`: as described at Errors");
        LoopGuesses x = Testing.withProgram(ZEROS);
        for (int ten = -2; ten <= 12; ten++) {
            boolean is = ten >= 0 && ten <= 10;
            // All three are left, or two of them.
            int left = 10 - ten;
            BigInteger top = BigInteger.valueOf(left * left * left + 3 * left * left * ten);
            BigInteger bottom = BigInteger.valueOf(1000);
            BigInteger divisor = top.gcd(bottom);
            due("lost(" + ten + ", true)", x.lost(ten, true), is ? top.divide(divisor).intValue() : BAD);
            due("lost(" + ten + ", false)", x.lost(ten, false), is ? bottom.divide(divisor).intValue() : BAD);
        }
        x.turn(0);
        due("lost(1, true) of two", x.lost(1, true), 81);
        due("lost(1, false) of two", x.lost(1, false), 100);
    }

    private static final long[] SEEDS = {0, 1, -1, 1234567, Long.MIN_VALUE, Long.MAX_VALUE};

    private static long next(long seed) {
        return seed * 6364136223846793005L + 1442695040888963407L;
    }

    private static void seed() {
        Document.says(21, "Sets the seed. - `v`: any value Returns the previous seed.");
        LoopGuesses x = new LoopGuesses();
        Testing.start(x, 6, 0, 0);
        long before = 0;
        for (long v : SEEDS) {
            due("seed(" + v + ")", x.seed(v), before);
            due("drawn(1)", x.drawn(1), 0);
            before = next(v);
        }
    }

    private static void drawn() {
        Document.says(22, "Runs the program m times with random choices. To draw a number below k: the seed x becomes");
        LoopGuesses x = Testing.withProgram("{!a#a|}");
        Testing.start(x, 0, 0, 0);
        long seed = 0;
        for (int m = -1; m <= 22; m++) {
            Document.says(22, "- `m`: 1 to 20");
            int failing = 0;
            for (int run = 0; run < m && m <= 20; run++) {
                seed = next(seed);
                failing += (seed >>> 33) % 2 == 0 ? 1 : 0;
            }
            due("drawn(" + m + ")", x.drawn(m), m >= 1 && m <= 20 ? failing : BAD);
        }
        due("the seed", x.seed(0), seed);
        Document.says(22, "A run ends with 0 at the end of the program, with 1 if a check fails, with 2 if the condition of an"
                + " assumption is false, and with 3 if a 61st step would have to be done (nothing is done or drawn for it).");
        due("at the end", ofRuns("a+"), 0);
        due("a check fails", ofRuns("!a#a"), 5);
        due("an assumption is false", ofRuns("@a#a"), 10);
        due("without end", ofRuns("(a=a)"), 15);
    }

    private static int ofRuns(String text) {
        return Testing.withProgram(text).drawn(5);
    }

    // ---- slots

    private static void slots() {
        LoopGuesses x = Testing.withProgram(";a=a;b=b");
        for (int slot = -1; slot <= 2; slot++) {
            boolean is = slot == 0 || slot == 1;
            Document.says(24, "- `slot`: the slot, 0 or 1");
            due("again(" + slot + ") of an empty one", x.again(slot), is ? LATE : UNKNOWN);
            x.turn(Math.max(slot, 0) % 2);
            x.begin(0, slot + 2);
            Document.says(23, "- `slot`: the slot, 0 or 1");
            due("keep(" + slot + ")", x.keep(slot), is ? slot == 0 ? 0 : 1 : UNKNOWN);
        }
        Document.says(24, "Restores what a slot has; the slot keeps it. No act can be undone then.");
        for (int time = 0; time < 3; time++) {
            due("again(0)", x.again(0), 0);
            due("start(0) of the slot 0", x.start(0), 2);
            due("about(4) of the slot 0", x.about(4), 0);
            due("undo()", x.undo(), LATE);
            due("again(1)", x.again(1), 1);
            due("start(0) of the slot 1", x.start(0), 3);
            due("about(4) of the slot 1", x.about(4), 2);
            x.begin(0, 5);
            x.turn(0);
        }
    }
}
