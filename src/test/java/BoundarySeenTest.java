/** The boundaries of observations and of random runs: promises 17 to 19, 21 and 22. */
public final class BoundarySeenTest {
    private static final int UNKNOWN = -1, BAD = -2, FULL = -4, NONE = -9;
    private static final int MIN = Integer.MIN_VALUE, MAX = Integer.MAX_VALUE;
    private static final long FACTOR = 6364136223846793005L, SUMMAND = 1442695040888963407L;
    private static final long[] SEEDS = {0, 1, -1, 2, 5, 77, Long.MIN_VALUE, Long.MAX_VALUE, Long.MIN_VALUE + 1,
        1L << 33, (1L << 33) - 1, -(1L << 33), 1L << 62, -(1L << 62), 123456789012345L, -987654321098765L};
    /** From 000 the loops take 6 + 5 * 9 = 51 steps, and leave 503. */
    private static final String STEPS_51 = "(a<5a+c=0(c<3c+))";

    public static void main(String[] args) {
        seeRange();
        sixObservations();
        couldFail();
        unsee();
        whichRange();
        whichNone();
        agreeingWithTheStart();
        checksOfAnotherProgram();
        seeds();
        drawnRange();
        drawnNumbers();
        whatIsDrawn();
        choicesDrawn();
        endsOfRuns();
        sixtySteps();
        nothingForThe61st();
        whatStepsAre();
        nothingButTheSeed();
        Testing.end();
    }

    private static void due(String call, long got, long want) {
        Testing.due(call, got, want);
    }

    // ---- promises 17 to 19

    private static void seeRange() {
        Document.says("Returns how many observations there are then; UNKNOWN if there is no such check; BAD if was is out of"
                + " range; FULL if there are 6.");
        for (int checks = 0; checks <= 4; checks++) {
            LoopGuesses x = Testing.withProgram("!a=a".repeat(checks));
            for (int check = -1; check <= 5; check++) {
                boolean is = check >= 0 && check < checks;
                for (int was : new int[] {-1, 2, MIN, MAX}) {
                    due("see(" + check + ", " + was + ") of " + checks, x.see(check, was), is ? BAD : UNKNOWN);
                }
                due("see(" + check + ", 0) of " + checks, x.see(check, 0), is ? 1 : UNKNOWN);
                due("see(" + check + ", 1) of " + checks, x.see(check, 1), is ? 2 : UNKNOWN);
                due("unsee()", x.unsee(), is ? 2 : 0);
            }
            due("see(MIN, 0)", x.see(MIN, 0), UNKNOWN);
            due("see(MAX, 0)", x.see(MAX, 0), UNKNOWN);
            due("about(10)", x.about(10), 0);
        }
    }

    private static void sixObservations() {
        Document.says("There are at most 6 observations.");
        LoopGuesses x = Testing.withProgram("!a=0!b=0!c=0");
        for (int i = 1; i <= 6; i++) {
            due("see(0, 0), the " + i + "th", x.see(0, 0), i);
            due("about(10)", x.about(10), i);
        }
        due("see(1, 1), the 7th", x.see(1, 1), FULL);
        due("see(0, 0), the 7th", x.see(0, 0), FULL);
        due("about(10)", x.about(10), 6);
        due("the 7th does not count", x.which(0), 36);
        Document.says("UNKNOWN if there is no such check; BAD if was is out of range; FULL if there are 6");
        due("see(3, 2), the 7th", x.see(3, 2), UNKNOWN);
        due("see(3, 1), the 7th", x.see(3, 1), UNKNOWN);
        due("see(-1, 0), the 7th", x.see(-1, 0), UNKNOWN);
        due("see(2, 2), the 7th", x.see(2, 2), BAD);
        due("see(2, -1), the 7th", x.see(2, -1), BAD);
        due("unsee()", x.unsee(), 6);
        due("see(1, 1) then", x.see(1, 1), 1);
        // The sixth one counts as the first one does.
        LoopGuesses y = Testing.withProgram("!a=0!b=0!c=0");
        for (int i = 0; i < 5; i++) {
            y.see(0, 0);
        }
        due("five", y.which(0), 36);
        due("see(2, 1), the 6th", y.see(2, 1), 6);
        due("six", y.which(0), 5);
        due("the smallest", y.which(1), 1);
    }

    private static int seen(String text, int check, int was) {
        LoopGuesses x = Testing.withProgram(text);
        x.see(check, was);
        return x.which(0);
    }

    private static void couldFail() {
        Document.says("if this state alone were the start, a check could fail (that is, a reached state there makes its"
                + " condition false), or could not");
        due("never", seen("!a=a", 0, 1), 0);
        due("never, could not", seen("!a=a", 0, 0), 216);
        due("always", seen("!a#a", 0, 1), 216);
        due("always, could not", seen("!a#a", 0, 0), 0);
        due("from one plane", seen("!a<5", 0, 1), 36);
        due("not from five", seen("!a<5", 0, 0), 180);
        // It need not fail, if it can.
        due("by one of two sequences", seen("{a=0|}!a=0", 0, 1), 180);
        due("by the first sequence", seen("{a=5|a=0}!a<5", 0, 1), 216);
        due("by the second sequence", seen("{a=0|a=5}!a<5", 0, 1), 216);
        due("by no sequence", seen("{a=0|a=1}!a<5", 0, 1), 0);
        due("by one of six values", seen("a?!a<5", 0, 1), 216);
        due("by no value", seen("a?@a<5!a<5", 0, 1), 0);
        // A check ahead lets no state pass that makes it fail.
        due("behind a check", seen("!a=0!a#5", 1, 1), 0);
        due("behind a check", seen("!a=0!b=0", 1, 1), 30);
        due("4 becomes 5, and 5 stays", seen("a+!a<5", 0, 1), 72);
        due("1 becomes 0, and 0 stays", seen("a-!a>0", 0, 1), 72);
        due("behind a loop without end", seen("(a=a)!a#a", 0, 1), 0);
        due("in a loop, after some rounds", seen("(a<5!a<4a+)", 0, 1), 180);
        due("by the value of another variable", seen("a=b!a<5", 0, 1), 36);
        // What has been found for one check is not left for the next.
        LoopGuesses x = Testing.withProgram("(a<3a+{b=1|b=0})!b<1!c=c");
        x.see(0, 1);
        due("the first check can, from a < 3 or b > 0", x.which(0), 108 + 90);
        x.unsee();
        x.see(1, 1);
        due("the second cannot", x.which(0), 0);
        // Not by the invariants: really a is 0 there.
        due("what is reached counts", seen("a=0(b<5b+)!a=0", 0, 1), 0);
    }

    private static void unsee() {
        Document.says("Removes all observations.");
        LoopGuesses x = Testing.withProgram("!a=0");
        due("unsee() of none", x.unsee(), 0);
        for (int number = 1; number <= 6; number++) {
            for (int i = 0; i < number; i++) {
                x.see(0, i % 2);
            }
            due("which(0)", x.which(0), number == 1 ? 36 : 0);
            due("unsee()", x.unsee(), number);
            due("about(10)", x.about(10), 0);
            due("which(0)", x.which(0), 216);
            due("unsee() again", x.unsee(), 0);
        }
    }

    private static void whichRange() {
        Document.says("Returns the value; BAD if what is out of range; NONE if what is 1 and there is none.");
        for (String text : new String[] {"", "!a#a"}) {
            LoopGuesses x = Testing.withProgram(text);
            x.see(0, 0);
            due("which(-1)", x.which(-1), BAD);
            due("which(0)", x.which(0), text.isEmpty() ? 216 : 0);
            due("which(1)", x.which(1), text.isEmpty() ? 0 : NONE);
            due("which(2)", x.which(2), BAD);
            due("which(MIN)", x.which(MIN), BAD);
            due("which(MAX)", x.which(MAX), BAD);
        }
    }

    private static void whichNone() {
        Document.says("NONE (-9) means that there is no such thing; it is returned only if no error code applies.");
        LoopGuesses x = Testing.withProgram("!a=0(a<1);a=a");
        x.see(0, 1);
        x.see(0, 0);
        due("which(0) of none", x.which(0), 0);
        due("which(1) of none", x.which(1), NONE);
        due("which(2) of none", x.which(2), BAD);
        x.begin(0, 0);
        due("check(0, 2) of none", x.check(0, 2), NONE);
        due("check(0, 4) of none", x.check(0, 4), BAD);
        due("check(1, 2)", x.check(1, 2), UNKNOWN);
        due("falls(0, 1) of none", x.falls(0, 1), NONE);
        due("falls(0, 2)", x.falls(0, 2), BAD);
        due("falls(1, 1)", x.falls(1, 1), UNKNOWN);
        due("judge(1, 1000) of none", x.judge(1, 1000), NONE);
        due("judge(0, 1000)", x.judge(0, 1000), BAD);
        due("judge(1, 10000)", x.judge(1, 10000), BAD);
        due("fault() of a program", x.fault(), NONE);
    }

    private static void agreeingWithTheStart() {
        Document.says("Finds the states that agree with the start and with all observations.");
        LoopGuesses x = Testing.withProgram("!a<5!b<5!c<5");
        due("which(0) of all", x.which(0), 216);
        due("which(1) of all", x.which(1), 0);
        Testing.start(x, 5, 5, 5);
        due("which(0) of one", x.which(0), 1);
        due("which(1) of one", x.which(1), 555);
        x.see(0, 0);
        due("which(0) of none", x.which(0), 0);
        x.begin(0, 4);
        due("which(0) of one again", x.which(0), 1);
        due("which(1) of one again", x.which(1), 455);
        x.see(1, 1);
        due("it agrees with both", x.which(1), 455);
        // Behind the second check, which fails, nothing comes to the third.
        x.see(2, 0);
        due("and with the third", x.which(1), 455);
        x.see(2, 1);
        due("but not with the fourth", x.which(0), 0);
        // What was seen does not depend on the start or the switches.
        LoopGuesses y = Testing.withProgram("a?!a<5");
        y.see(0, 1);
        y.begin(0, 0);
        due("from 0 too", y.which(0), 36);
        due("the smallest from 0", y.which(1), 0);
    }

    private static void checksOfAnotherProgram() {
        Document.says("(An observation about a check that does not exist any more, in another program, is true if it says"
                + " \"could not\", and false otherwise.)");
        for (int was = 0; was <= 1; was++) {
            LoopGuesses x = Testing.withProgram("!a=a!a=a!a=a!a<5");
            x.see(3, was);
            int four = was == 1 ? 36 : 180;
            due("with the check", x.which(0), four);
            for (int checks = 0; checks <= 3; checks++) {
                x.wipe();
                Testing.writeAll(x, "!a=a".repeat(checks));
                x.program();
                due("with " + checks + " checks", x.which(0), was == 1 ? 0 : 216);
                due("the smallest with " + checks + " checks", x.which(1), was == 1 ? NONE : 0);
                due("the observation stays", x.about(10), 1);
            }
            x.wipe();
            Testing.writeAll(x, "!a=a!a=a!a=a!b<5");
            x.program();
            due("with another check of this number", x.which(0), four);
            due("the smallest", x.which(1), was == 1 ? 50 : 0);
        }
        // One that is true says nothing about the others.
        LoopGuesses y = Testing.withProgram("!a<5!b<5");
        y.see(1, 0);
        y.see(0, 1);
        y.wipe();
        Testing.writeAll(y, "!c<5");
        y.program();
        due("the first check alone", y.which(0), 36);
        due("its smallest", y.which(1), 5);
        due("a new one about the check that is no more", y.see(1, 0), UNKNOWN);
    }

    // ---- promises 21 and 22

    private static void seeds() {
        Document.says("Returns the previous seed.");
        LoopGuesses x = new LoopGuesses();
        long before = 0;
        for (long seed : SEEDS) {
            due("seed(" + seed + ")", x.seed(seed), before);
            before = seed;
        }
        due("seed(0)", x.seed(0), before);
    }

    private static void drawnRange() {
        Document.says("Returns the sum of the numbers with which the runs end; BAD if m is out of range.");
        LoopGuesses x = Testing.withProgram("(a=a)");
        for (int m : new int[] {-1, 0, 21, MIN, MAX}) {
            due("drawn(" + m + ")", x.drawn(m), BAD);
        }
        due("no number was drawn", x.seed(0), 0);
        for (int m : new int[] {1, 2, 19, 20}) {
            due("drawn(" + m + ")", x.drawn(m), 3 * m);
            due("three numbers were drawn a run", x.seed(0), after(0, 3 * m));
        }
    }

    private static long after(long seed, int draws) {
        long x = seed;
        for (int i = 0; i < draws; i++) {
            x = x * FACTOR + SUMMAND;
        }
        return x;
    }

    /** The number that is drawn below k as the draws-th one, from 1. */
    private static int number(long seed, int draws, int k) {
        return (int) ((after(seed, draws) >>> 33) % k);
    }

    private static void drawnNumbers() {
        Document.says("the seed x becomes x * 6364136223846793005 + 1442695040888963407 (long arithmetic with overflow), and the"
                + " number is (x >>> 33) modulo k");
        for (long seed : SEEDS) {
            int a = number(seed, 1, 6);
            int b = number(seed, 2, 6);
            int c = number(seed, 3, 6);
            LoopGuesses x = Testing.withProgram("!a=" + a + "!b=" + b + "!c=" + c);
            x.seed(seed);
            due("a, b and c from " + seed, x.drawn(1), 0);
            due("three numbers from " + seed, x.seed(0), after(seed, 3));
            LoopGuesses y = Testing.withProgram("!c#" + c);
            y.seed(seed);
            due("c is not another value from " + seed, y.drawn(1), 1);
        }
    }

    private static void whatIsDrawn() {
        Document.says("At the beginning of a run, for each variable from a to c whose start is any, its value is drawn below 6.");
        for (int set = 0; set < 8; set++) {
            for (long seed : SEEDS) {
                int draws = 0;
                StringBuilder text = new StringBuilder();
                for (int variable = 0; variable < 3; variable++) {
                    boolean any = (set >> variable & 1) == 1;
                    draws += any ? 1 : 0;
                    text.append('!').append((char) ('a' + variable)).append('=').append(any ? number(seed, draws, 6) : 5);
                }
                LoopGuesses x = Testing.withProgram(text.toString());
                for (int variable = 0; variable < 3; variable++) {
                    x.begin(variable, (set >> variable & 1) == 1 ? 6 : 5);
                }
                x.seed(seed);
                due("a run of " + text + " from " + seed, x.drawn(1), 0);
                due("what was drawn for " + text + " from " + seed, x.seed(0), after(seed, draws));
            }
        }
        Document.says("When v? is executed, the value is drawn below 6");
        for (long seed : SEEDS) {
            String text = "b?!b=" + number(seed, 1, 6) + "a?!a=" + number(seed, 2, 6) + "!c=3";
            LoopGuesses x = Testing.withProgram(text);
            Testing.start(x, 3, 3, 3);
            x.seed(seed);
            due("a run of " + text + " from " + seed, x.drawn(1), 0);
            due("two numbers from " + seed, x.seed(0), after(seed, 2));
        }
    }

    private static void choicesDrawn() {
        Document.says("at a choice, a number is drawn below 2 (0: the first sequence)");
        for (long seed : SEEDS) {
            LoopGuesses x = Testing.withProgram("{!a#a|@a#a}");
            Testing.start(x, 0, 0, 0);
            x.seed(seed);
            due("the choice from " + seed, x.drawn(1), number(seed, 1, 2) == 0 ? 1 : 2);
            due("one number from " + seed, x.seed(0), after(seed, 1));
            // The inner choice is drawn only if its sequence is executed.
            LoopGuesses y = Testing.withProgram("{{!a#a|}|@a#a}");
            Testing.start(y, 0, 0, 0);
            y.seed(seed);
            boolean first = number(seed, 1, 2) == 0;
            int want = !first ? 2 : number(seed, 2, 2) == 0 ? 1 : 0;
            due("choices in another from " + seed, y.drawn(1), want);
            due("their numbers from " + seed, y.seed(0), after(seed, first ? 2 : 1));
        }
    }

    private static LoopGuesses from000(String text) {
        LoopGuesses x = Testing.withProgram(text);
        Testing.start(x, 0, 0, 0);
        return x;
    }

    private static void endsOfRuns() {
        Document.says("A run ends with 0 at the end of the program, with 1 if a check fails, with 2 if the condition of an"
                + " assumption is false");
        due("the end", from000("").drawn(20), 0);
        due("the end behind steps", from000("!a=0@a=0").drawn(20), 0);
        due("a check", from000("!a=1@a=1").drawn(20), 20);
        due("an assumption", from000("@a=1!a=1").drawn(20), 40);
        due("too many steps", from000("(a=0)@a=1").drawn(20), 60);
        // Each run begins anew.
        due("the start each time", from000("!a=0a+").drawn(20), 0);
        LoopGuesses x = Testing.withProgram("!a=0!b=0@c=0");
        int sum = 0;
        for (int run = 0; run < 20; run++) {
            boolean fails = number(1, 3 * run + 1, 6) != 0 || number(1, 3 * run + 2, 6) != 0;
            sum += fails ? 1 : number(1, 3 * run + 3, 6) != 0 ? 2 : 0;
        }
        x.seed(1);
        due("the sum of twenty", x.drawn(20), sum);
        due("sixty numbers", x.seed(0), after(1, 60));
    }

    private static void sixtySteps() {
        Document.says("with 3 if a 61st step would have to be done");
        String[] last = {"a+", "a-", "a?", "a=1", "a=a", "@a=5", "!a=5", "(a<5)", "{|}"};
        for (String step : last) {
            due("59 steps with " + step, from000(STEPS_51 + "b+".repeat(7) + step).drawn(1), 0);
            due("60 steps with " + step, from000(STEPS_51 + "b+".repeat(8) + step).drawn(1), 0);
            due("61 steps with " + step, from000(STEPS_51 + "b+".repeat(9) + step).drawn(1), 3);
            due("62 steps with " + step, from000(STEPS_51 + "b+".repeat(10) + step).drawn(1), 3);
        }
        due("the 60th step fails", from000(STEPS_51 + "b+".repeat(8) + "!a=0").drawn(1), 1);
        due("the 61st step would fail", from000(STEPS_51 + "b+".repeat(9) + "!a=0").drawn(1), 3);
        due("the 60th step is false", from000(STEPS_51 + "b+".repeat(8) + "@a=0").drawn(1), 2);
        due("the 61st step would be false", from000(STEPS_51 + "b+".repeat(9) + "@a=0").drawn(1), 3);
        // The step count begins anew with each run.
        due("twenty runs of 60 steps", from000(STEPS_51 + "b+".repeat(9)).drawn(20), 0);
        due("twenty runs of 61 steps", from000(STEPS_51 + "b+".repeat(10)).drawn(20), 60);
    }

    private static void nothingForThe61st() {
        Document.says("(nothing is done or drawn for it)");
        for (int ahead = 7; ahead <= 10; ahead++) {
            // The step behind is the 59th, 60th, 61st, 62nd one.
            LoopGuesses x = from000(STEPS_51 + "b+".repeat(ahead) + "a?");
            x.drawn(1);
            due("numbers drawn for a? as step " + (52 + ahead), x.seed(0), after(0, ahead <= 8 ? 1 : 0));
            LoopGuesses y = from000(STEPS_51 + "b+".repeat(ahead) + "{|}");
            y.drawn(1);
            due("numbers drawn for a choice as step " + (52 + ahead), y.seed(0), after(0, ahead <= 8 ? 1 : 0));
        }
        // A round of the loop is two steps; with one step ahead the 60th is the loop's.
        due("30 rounds", seedAfter("(a=aa?)"), after(0, 30));
        due("29 rounds and a loop's step", seedAfter("b+(a=aa?)"), after(0, 29));
        due("29 rounds", seedAfter("b+b+(a=aa?)"), after(0, 29));
    }

    private static long seedAfter(String text) {
        LoopGuesses x = from000(text);
        due("drawn(1) of " + text, x.drawn(1), 3);
        return x.seed(0);
    }

    private static void whatStepsAre() {
        Document.says("Each execution of a statement is a step: at a choice when its sequence is chosen (before the draw), at a"
                + " loop each time its condition is evaluated.");
        // A choice is one step, whichever sequence it takes; its bar and its end are none.
        due("60 steps with choices", from000("{{|}|{|}}" + STEPS_51 + "b+".repeat(7)).drawn(20), 0);
        due("61 steps with choices", from000("{{|}|{|}}" + STEPS_51 + "b+".repeat(8)).drawn(20), 60);
        // A loop whose condition is false at once is one step, one that runs n times n + 1.
        due("60 steps with loops", from000("(a>0)" + STEPS_51 + "b+".repeat(8)).drawn(20), 0);
        due("61 steps with loops", from000("(a>0)" + STEPS_51 + "b+".repeat(9)).drawn(20), 60);
        due("two steps of a loop", from000("(b<1b+)" + STEPS_51 + "a+".repeat(6)).drawn(20), 0);
        due("two steps of a loop", from000("(b<1b+)" + STEPS_51 + "a+".repeat(7)).drawn(20), 60);
        // A draw in each choice: 20 rounds of 3 steps with a draw each, or 2 draws.
        due("20 rounds of 3 steps", seedAfter("(a=a{b+|b-})"), after(0, 20));
        due("20 rounds of 3 steps", seedAfter("(a=a{b?|b?})"), after(0, 40));
        due("the 60th step is a choice", seedAfter("b+(a=a{b?|b?})"), after(0, 19 * 2 + 1));
        due("the 60th step is a loop's", seedAfter("b+b+(a=a{b?|b?})"), after(0, 19 * 2));
        due("the 60th step is a value", seedAfter("b+b+b+(a=a{b?|b?})"), after(0, 19 * 2));
    }

    private static void nothingButTheSeed() {
        Document.says("Nothing changes but the seed.");
        LoopGuesses x = Testing.withProgram("a?b?(a<b{a+|b-})!a=b;a=b;a<b");
        x.begin(0, 3);
        x.turn(1);
        x.keep(0);
        x.see(0, 1);
        int[] before = new int[12];
        for (int what = 0; what < 12; what++) {
            before[what] = x.about(what);
        }
        x.drawn(20);
        for (int what = 0; what < 12; what++) {
            due("about(" + what + ")", x.about(what), before[what]);
        }
        due("start(0)", x.start(0), 3);
        due("start(1)", x.start(1), 6);
        due("the seed changes", x.seed(0) == 0 ? 1 : 0, 0);
        due("undo()", x.undo(), 1);
        due("again(0)", x.again(0), 1);
    }
}
