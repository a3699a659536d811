/** The boundaries of what is computed of guesses: promises 13 to 16 and 20. */
public final class BoundaryGuessesTest {
    private static final int UNKNOWN = -1, BAD = -2, LATE = -3, NONE = -9;
    private static final int MIN = Integer.MIN_VALUE, MAX = Integer.MAX_VALUE;

    /** All limits at once; with a = 0 in the start all is proved and safe, and 000 to 055 are reached at the end. */
    private static final String LIMITS = "!a<1!a<1!a<1!a<1(a>0)(a>0)(a>0){|}{|}{|};a<1;a<1;a<1;a<1;a<1";
    /** All limits but that of choices: no check is safe, no guess is true in a loop, and no state is reached at the end. */
    private static final String NOTHING = "!a<4!a<3!a<2!a<1(b<0)(b<0)(b<0)@a#a;a<0;b<0;c<0;a>5;b>5";
    /** Each of the five guesses is needed: 0 and 1 for the first check, 2 and 3 for the second, 4 for the last. */
    private static final String ALL_NEEDED = "a=0b=1c=2(c#c)!a<b!b<c!c<3;a<1;b>0;b<2;c>1;c<3";
    /** Each of the five guesses proves the check alone. */
    private static final String ONE_ENOUGH = "a=0(b#b)!a<1;a<1;a<1;a<1;a<1;a<1";
    /** The first guess proves the check alone, or the other four do it together. */
    private static final String ONE_OR_FOUR = "a=0b=1c=2(c#c)!a<1;a<1;a<b;b<c;c<4;c#3";
    /** The guesses 0 and 3 prove the check, and so do 1 and 2. */
    private static final String TWO_PAIRS = "a=2b=2c=2(c#c)!a=b;a=c;a=2;b=2;b=c";

    public static void main(String[] args) {
        fallsRange();
        fallsSets();
        fallsSwitchedOff();
        fallsSmallest();
        fallsOthers();
        fewestRange();
        fewestNone();
        fewestAll();
        fewestSmallestMask();
        fewestOfActive();
        judgeNumber();
        judgeRow();
        judgeEveryLine();
        judgeWithoutAnything();
        judgePlaces();
        judgeBecomes();
        shareRange();
        shareOff();
        shareNothing();
        shareMost();
        shareParts();
        shareOfActive();
        lostRange();
        lostEnds();
        lostParts();
        lostWithoutGuesses();
        lowestTerms();
        Testing.end();
    }

    private static void due(String call, long got, long want) {
        Testing.due(call, got, want);
    }

    private static LoopGuesses with(String text) {
        return Testing.withProgram(text);
    }

    private static void turnAll(LoopGuesses x) {
        for (int guess = 0; guess < x.about(3); guess++) {
            x.turn(guess);
        }
    }

    // ---- promise 13

    private static void fallsRange() {
        Document.says("UNKNOWN if there is no such loop; BAD if guesses contains a guess that does not exist or is switched"
                + " off; NONE if all of them are true there");
        for (int loops = 0; loops <= 3; loops++) {
            LoopGuesses x = with("(a<1)".repeat(loops) + ";a=a");
            for (int loop = -1; loop <= 4; loop++) {
                boolean is = loop >= 0 && loop < loops;
                due("falls(" + loop + ", 0) of " + loops, x.falls(loop, 0), is ? NONE : UNKNOWN);
                due("falls(" + loop + ", 1) of " + loops, x.falls(loop, 1), is ? NONE : UNKNOWN);
                due("falls(" + loop + ", 2) of " + loops, x.falls(loop, 2), is ? BAD : UNKNOWN);
                due("falls(" + loop + ", -1) of " + loops, x.falls(loop, -1), is ? BAD : UNKNOWN);
            }
            due("falls(MIN, 0)", x.falls(MIN, 0), UNKNOWN);
            due("falls(MAX, MAX)", x.falls(MAX, MAX), UNKNOWN);
        }
    }

    private static void fallsSets() {
        Document.says("Sets of guesses or checks are bit masks: bit k stands for number k.");
        for (int guesses = 0; guesses <= 5; guesses++) {
            LoopGuesses x = with("(a<1)" + ";a=a".repeat(guesses));
            int most = (1 << guesses) - 1;
            due("falls(0, 0) of " + guesses, x.falls(0, 0), NONE);
            due("falls(0, " + most + ")", x.falls(0, most), NONE);
            due("falls(0, " + (most + 1) + ")", x.falls(0, most + 1), BAD);
            for (int bit = 0; bit < 32; bit++) {
                due("falls(0, 1 << " + bit + ") of " + guesses, x.falls(0, 1 << bit), bit < guesses ? NONE : BAD);
            }
            due("falls(0, -1)", x.falls(0, -1), BAD);
            due("falls(0, MAX)", x.falls(0, MAX), BAD);
        }
    }

    private static void fallsSwitchedOff() {
        Document.says("the set of guesses; only active ones");
        LoopGuesses x = with("(a<1);a=a;b=b;c=c;a=a;b=b");
        x.turn(2);
        for (int set = 0; set < 32; set++) {
            due("falls(0, " + set + ") without 2", x.falls(0, set), (set & 4) == 0 ? NONE : BAD);
        }
        turnAll(x);
        due("falls(0, 4), which alone is active", x.falls(0, 4), NONE);
        x.turn(2);
        due("falls(0, 0) if none is active", x.falls(0, 0), NONE);
        for (int guess = 0; guess < 5; guess++) {
            due("falls(0, " + (1 << guess) + ") if none is active", x.falls(0, 1 << guess), BAD);
        }
    }

    private static void fallsSmallest() {
        Document.says("Returns the smallest one of them that is not true in all states that come to this loop");
        LoopGuesses x = with("a=1(a<1);a=1;a<1;a>0;a=0;a>1");
        int[] smallest = {NONE, NONE, 1, 1, NONE, NONE, 1, 1, 3, 3, 1, 1, 3, 3, 1, 1,
            4, 4, 1, 1, 4, 4, 1, 1, 3, 3, 1, 1, 3, 3, 1, 1};
        for (int set = 0; set < 32; set++) {
            due("falls(0, " + set + ")", x.falls(0, set), smallest[set]);
        }
        LoopGuesses y = with("(a<1);a<1;a<1;a<1;a<1;a<1");
        for (int set = 1; set < 32; set++) {
            due("falls(0, " + set + ") of false ones", y.falls(0, set), Integer.numberOfTrailingZeros(set));
        }
        // By the guesses a<0 and a=0 together nothing is in the loop, so all that comes is from ahead.
        LoopGuesses z = with("a=0(a<5a+);a=0;a#0;a<1");
        due("a=0 alone: 1 comes from the end", z.falls(0, 1), 0);
        due("a#0 alone: 0 comes from ahead", z.falls(0, 2), 1);
        due("both: nothing is in the loop", z.falls(0, 3), 1);
        due("all three", z.falls(0, 7), 1);
    }

    private static void fallsOthers() {
        Document.says("they are assigned to this loop, and the guesses of the invariants to all others");
        LoopGuesses x = with("a=0(b<1b+)(c<1c+);a=0");
        due("the first loop keeps a=0", x.falls(1, 1), NONE);
        x.turn(0);
        due("without it", x.loop(0, 0), 0);
        // In the first loop a=0 is no invariant, so anything comes to the second one.
        LoopGuesses y = with("(b<1b+)(c<1c+);a=0");
        due("a=0 is not assigned to the first loop", y.falls(1, 1), 0);
        due("nor is it true there", y.falls(0, 1), 0);
        // The loop itself has the given guesses only, not those of the invariants.
        LoopGuesses z = with("a=0b=0(a=ab=a);a=0;b=0");
        due("both are invariants", z.loop(0, 0), 3);
        due("a=0 alone", z.falls(0, 1), NONE);
        due("b=0 alone needs a=0", z.falls(0, 2), 1);
        due("both", z.falls(0, 3), NONE);
    }

    // ---- promise 14

    private static void fewest(LoopGuesses x, int number, int set) {
        due("fewest(0)", x.fewest(0), number);
        due("fewest(1)", x.fewest(1), set);
    }

    private static void fewestRange() {
        Document.says("0: the number of these guesses; 1: the set of them");
        LoopGuesses x = with(ONE_ENOUGH);
        due("fewest(-1)", x.fewest(-1), BAD);
        due("fewest(0)", x.fewest(0), 1);
        due("fewest(1)", x.fewest(1), 1);
        due("fewest(2)", x.fewest(2), BAD);
        due("fewest(MIN)", x.fewest(MIN), BAD);
        due("fewest(MAX)", x.fewest(MAX), BAD);
    }

    private static void fewestNone() {
        Document.says("the same number of checks is proved as with all active guesses");
        fewest(new LoopGuesses(), 0, 0);
        fewest(with("a+;a<1;a<1;a<1;a<1;a<1"), 0, 0);
        // The check is proved without any guess, or not with all of them.
        fewest(with("(a<5)!a=5;a=a;a=a;a=a;a=a;a=a"), 0, 0);
        fewest(with("(a<5)!a=4;a=a;a=a;a=a;a=a;a=a"), 0, 0);
        LoopGuesses x = with(ALL_NEEDED);
        turnAll(x);
        fewest(x, 0, 0);
    }

    private static void fewestAll() {
        Document.says("Finds the fewest active guesses with which, all others being switched off, the same number of checks is"
                + " proved");
        LoopGuesses x = with(ALL_NEEDED);
        due("all are proved", x.about(5), 7);
        fewest(x, 5, 31);
        x.turn(4);
        fewest(x, 4, 15);
        x.turn(0);
        fewest(x, 2, 12);
        x.turn(3);
        fewest(x, 0, 0);
        fewest(with(ONE_ENOUGH), 1, 1);
        fewest(with(ONE_OR_FOUR), 1, 1);
    }

    private static void fewestSmallestMask() {
        Document.says("of several sets the smallest bit mask");
        LoopGuesses x = with(TWO_PAIRS);
        // {0, 3} is 9 and {1, 2} is 6.
        fewest(x, 2, 6);
        x.turn(2);
        fewest(x, 2, 9);
        LoopGuesses y = with(ONE_ENOUGH);
        for (int guess = 0; guess < 4; guess++) {
            fewest(y, 1, 1 << guess);
            y.turn(guess);
        }
        fewest(y, 1, 16);
        // A smaller number counts more than a smaller mask.
        LoopGuesses z = with("a=0b=1c=2(c#c)!a<1;a<b;b<c;c<3;a=0");
        fewest(z, 1, 8);
        z.turn(3);
        fewest(z, 3, 7);
    }

    private static void fewestOfActive() {
        Document.says("Finds the fewest active guesses");
        LoopGuesses x = with(ONE_OR_FOUR);
        x.turn(0);
        fewest(x, 4, 30);
        x.turn(4);
        fewest(x, 0, 0);
        x.turn(0);
        fewest(x, 1, 1);
        due("the switches stay", x.about(4), 16);
    }

    // ---- promise 15

    private static void judgeNumber() {
        Document.says("the number of acts and claims, 1 to 4");
        LoopGuesses x = new LoopGuesses();
        due("judge(0, 0)", x.judge(0, 0), BAD);
        due("judge(1, 1006)", x.judge(1, 1006), NONE);
        due("judge(2, 1006 1006)", x.judge(2, 10061006L), NONE);
        due("judge(3, 1006 1006 1006)", x.judge(3, 100610061006L), NONE);
        due("judge(4, 1006 1006 1006 1006)", x.judge(4, 1006100610061006L), NONE);
        due("judge(5, 1006)", x.judge(5, 1006), BAD);
        due("judge(5, 1006 1006 1006 1006)", x.judge(5, 1006100610061006L), BAD);
        due("judge(-1, 1006)", x.judge(-1, 1006), BAD);
        due("judge(MIN, 1006)", x.judge(MIN, 1006), BAD);
        due("judge(MAX, 1006)", x.judge(MAX, 1006), BAD);
        due("judge(0, -1)", x.judge(0, -1), BAD);
    }

    private static void judgeRow() {
        Document.says("the digits, 0 to 10 to the power of 4 * n, minus 1");
        LoopGuesses x = new LoopGuesses();
        long limit = 1;
        for (int n = 1; n <= 4; n++) {
            limit *= 10000;
            due("judge(" + n + ", -1)", x.judge(n, -1), BAD);
            due("judge(" + n + ", MIN)", x.judge(n, Long.MIN_VALUE), BAD);
            due("judge(" + n + ", -" + limit + ")", x.judge(n, -limit), BAD);
            due("judge(" + n + ", 0)", x.judge(n, 0), 0);
            due("judge(" + n + ", 1)", x.judge(n, 1), 0);
            due("judge(" + n + ", " + (limit - 1) + ")", x.judge(n, limit - 1), 0);
            due("judge(" + n + ", " + limit + ")", x.judge(n, limit), BAD);
            due("judge(" + n + ", " + (limit + 1006) + ")", x.judge(n, limit + 1006), BAD);
            due("judge(" + n + ", MAX)", x.judge(n, Long.MAX_VALUE), BAD);
        }
        // As an int it would be 1006.
        due("judge(1, 2 to the power of 32, + 1006)", x.judge(1, (1L << 32) + 1006), BAD);
        due("judge(4, 6555 behind zeros)", x.judge(4, 6555), 0);
        due("judge(4, 6555 four times)", x.judge(4, 6555655565556555L), NONE);
    }

    /** Whether the line is an act, or a true claim, if all claims that something is so are true (1), or none (0). */
    private static boolean stands(int line, int so) {
        int p = line / 1000;
        int q = line / 100 % 10;
        int r = line / 10 % 10;
        int s = line % 10;
        switch (p) {
            case 1:
                return q <= 2 && r == 0 && s <= 6;
            case 2:
                return q <= 4 && r == 0 && s <= 1;
            case 3:
            case 4:
                return q <= 3 && r == 0 && s == so;
            case 5:
                return q <= 2 && r <= 4 && s == so;
            case 6:
                return so == 1 && q == 0 && r <= 5 && s <= 5;
            default:
                return false;
        }
    }

    private static void judgeEveryLine() {
        Document.says("Returns the index (from 0) of the first one that is not written like this, names something that does not"
                + " exist, or is a false claim");
        everyLine(LIMITS, 1);
        Document.says("3, a check, 0, 1 or 0: the claim that it is proved (1), or not (0); 4, a check, 0, 1 or 0: the claim that"
                + " it is safe (1), or not (0); 5, a loop, a guess, 1 or 0: the claim that the invariants assign this guess"
                + " to this loop (1), or not (0)");
        everyLine(NOTHING, 0);
    }

    private static void everyLine(String text, int so) {
        LoopGuesses x = null;
        for (int line = 0; line <= 9999; line++) {
            if (line % 100 == 0) {
                x = with(text);
                x.begin(0, so == 1 ? 0 : 6);
            }
            int index = stands(line, so) ? NONE : 0;
            due("judge(1, " + line + ")", x.judge(1, line), index);
            // Behind acts that make nothing different.
            long row = (so == 1 ? 1000120620000000L : 1006120620000000L) + line;
            due("judge(4, " + row + ")", x.judge(4, row), index == NONE ? NONE : 3);
        }
    }

    private static void judgeWithoutAnything() {
        Document.says("names something that does not exist");
        LoopGuesses x = new LoopGuesses();
        int stand = 0;
        for (int line = 0; line <= 9999; line++) {
            if (line % 500 == 0) {
                x = new LoopGuesses();
            }
            int answer = x.judge(1, line);
            stand += answer == NONE ? 1 : 0;
            due("judge(1, " + line + ") is an index or NONE", answer == NONE || answer == 0 ? 1 : 0, 1);
        }
        due("starts and states alone can be named", stand, 21 + 216);
        // Just the last one that exists, and the next.
        LoopGuesses y = with("!a=a!b=b(c#c)(c#c);a=a;b=b");
        due("check 1 is proved", y.judge(1, 3101), NONE);
        due("check 2", y.judge(1, 3201), 0);
        due("check 2 is not proved", y.judge(1, 3200), 0);
        due("check 1 is safe", y.judge(1, 4101), NONE);
        due("check 2 is safe", y.judge(1, 4201), 0);
        due("check 2 is not safe", y.judge(1, 4200), 0);
        due("guess 1 in loop 1", y.judge(1, 5111), NONE);
        due("guess 2 in loop 1", y.judge(1, 5121), 0);
        due("guess 2 not in loop 1", y.judge(1, 5120), 0);
        due("guess 1 in loop 2", y.judge(1, 5211), 0);
        due("guess 1 not in loop 2", y.judge(1, 5210), 0);
        due("guess 1 off", y.judge(1, 2101), NONE);
        due("guess 2 off", y.judge(1, 2201), 0);
        due("guess 2 on", y.judge(1, 2200), 0);
        due("start of c", y.judge(1, 1200), NONE);
        due("start of a fourth variable", y.judge(1, 1300), 0);
    }

    private static void judgePlaces() {
        Document.says("the first one in the highest digits of row");
        LoopGuesses x = with(LIMITS);
        x.begin(0, 0);
        long[] places = {1000000000000L, 100000000L, 10000L, 1L};
        for (int wrong = 0; wrong < 4; wrong++) {
            long row = 3001310132013301L;
            due("four true claims", x.judge(4, row), NONE);
            due("the claim " + wrong + " is false", x.judge(4, row - places[wrong]), wrong);
            due("the claim " + wrong + " is ill-written", x.judge(4, row + places[wrong]), wrong);
        }
        due("the first of several", x.judge(4, 3001300030003000L), 1);
        due("all of them", x.judge(4, 3000300030003000L), 0);
        due("the last of two", x.judge(2, 30013000L), 1);
        due("the last of three", x.judge(3, 300130013000L), 2);
    }

    private static void judgeBecomes() {
        Document.says("its start becomes this value; 2, a guess, 0, 1 or 0: it is switched off from then on (1), or active (0)");
        LoopGuesses x = with(ONE_ENOUGH);
        due("all off but the last", x.judge(4, 2001210122012301L), NONE);
        x.turn(4);
        due("not proved if the rest are off", x.judge(4, 2001210122012301L), NONE);
        x.turn(3);
        x.turn(2);
        due("proved", x.judge(3, 200121003001L), NONE);
        due("not proved", x.judge(3, 200121013000L), NONE);
        due("on again", x.judge(4, 2001210124003001L), NONE);
        due("off twice is off", x.judge(4, 2001210121013000L), NONE);
        due("the switches stay", x.about(4), 28);
        Document.says("6, and the three digits of a state: the claim that this state is reached at the end of the program");
        LoopGuesses y = new LoopGuesses();
        due("555 from 555", y.judge(4, 1005110512056555L), NONE);
        due("554 from 555", y.judge(4, 1005110512056554L), 3);
        due("000 from 000", y.judge(4, 1000110012006000L), NONE);
        due("100 from 000", y.judge(4, 1000110012006100L), 3);
        due("any again", y.judge(4, 1005600010066000L), 1);
        due("any again", y.judge(3, 100510066000L), NONE);
        Document.says("which begin with the present start and switches; nothing changes");
        y.begin(0, 3);
        due("000 from 3", y.judge(1, 6000), 0);
        due("355 from 3", y.judge(1, 6355), NONE);
        due("000 from 0", y.judge(2, 10006000L), NONE);
        due("start(0)", y.start(0), 3);
        due("about(9)", y.about(9), 1);
    }

    // ---- promise 16

    private static void share(LoopGuesses x, int guess, int top, int bottom) {
        due("share(" + guess + ", true)", x.share(guess, true), top);
        due("share(" + guess + ", false)", x.share(guess, false), bottom);
    }

    private static void shareRange() {
        Document.says("Returns the part of the fraction; UNKNOWN if there is no such guess; LATE if it is switched off.");
        for (int guesses = 0; guesses <= 5; guesses++) {
            LoopGuesses x = with("a+" + ";a=a".repeat(guesses));
            for (int guess = -1; guess <= 6; guess++) {
                boolean is = guess >= 0 && guess < guesses;
                share(x, guess, is ? 0 : UNKNOWN, is ? 1 : UNKNOWN);
            }
            for (int guess : new int[] {31, 32, 33, -32, MIN, MAX}) {
                share(x, guess, UNKNOWN, UNKNOWN);
            }
        }
    }

    private static void shareOff() {
        Document.says("LATE if it is switched off");
        LoopGuesses x = with(ONE_ENOUGH);
        for (int guess = 0; guess < 5; guess++) {
            share(x, guess, 1, 5 - guess);
            x.turn(guess);
            share(x, guess, LATE, LATE);
        }
        for (int guess = 0; guess < 5; guess++) {
            share(x, guess, LATE, LATE);
        }
        share(x, 5, UNKNOWN, UNKNOWN);
        share(x, -1, UNKNOWN, UNKNOWN);
    }

    private static void shareNothing() {
        Document.says("(0 is 0/1)");
        share(with(";a<1"), 0, 0, 1);
        share(with("!a=a;a<1"), 0, 0, 1);
        share(with("(a<1)!a=0;a<1"), 0, 0, 1);
        share(with("a=0(b#b)!a<1;a<2"), 0, 0, 1);
        share(with("a=0(b#b)!a<1;a<1;a<2;a<3;a<4;a<5"), 4, 0, 1);
        due("lost(10, true)", with(ONE_ENOUGH).lost(10, true), 0);
        due("lost(10, false)", with(ONE_ENOUGH).lost(10, false), 1);
    }

    private static void shareMost() {
        Document.says("the mean number of checks that are proved additionally when this guess is switched on");
        share(with("a=0(b#b)!a<4!a<3!a<2!a<1;a<1"), 0, 4, 1);
        share(with("a=0(b#b)!a<4!a<3!a<2!a<1;a<1;a<1"), 1, 2, 1);
        // a<2 is there to prove three of the four, a<1 to prove all of them: 3/2 and 1 + 3/2.
        LoopGuesses x = with("a=0(b#b)!a<4!a<3!a<2!a<1;a<2;a<1");
        share(x, 0, 3, 2);
        share(x, 1, 5, 2);
        // Behind a check its condition is true, so each guess proves one of the first three, and the last needs none.
        LoopGuesses y = with("a=0b=0c=0(b#b)!a<1!b<1!c<1!a=b;a=0;a=b;b=c");
        for (int guess = 0; guess < 3; guess++) {
            share(y, guess, 1, 1);
        }
    }

    private static void shareParts() {
        Document.says("if the active guesses are switched on one after the other, in a random order (all orders being equally"
                + " probable)");
        LoopGuesses needed = with(ALL_NEEDED);
        for (int guess = 0; guess < 4; guess++) {
            share(needed, guess, 1, 2);
        }
        share(needed, 4, 1, 1);
        LoopGuesses enough = with(ONE_ENOUGH);
        for (int guess = 0; guess < 5; guess++) {
            share(enough, guess, 1, 5);
        }
        // The first proves nothing new only if it is the last of five.
        LoopGuesses four = with(ONE_OR_FOUR);
        share(four, 0, 4, 5);
        for (int guess = 1; guess < 5; guess++) {
            share(four, guess, 1, 20);
        }
        LoopGuesses pairs = with(TWO_PAIRS);
        for (int guess = 0; guess < 4; guess++) {
            share(pairs, guess, 1, 4);
        }
    }

    private static void shareOfActive() {
        Document.says("if the active guesses are switched on one after the other");
        LoopGuesses x = with(ONE_OR_FOUR);
        x.turn(4);
        share(x, 0, 1, 1);
        share(x, 1, 0, 1);
        x.turn(4);
        x.turn(0);
        for (int guess = 1; guess < 5; guess++) {
            share(x, guess, 1, 4);
        }
        LoopGuesses y = with(ONE_ENOUGH);
        y.turn(1);
        y.turn(2);
        y.turn(3);
        share(y, 4, 1, 2);
        y.turn(0);
        share(y, 4, 1, 1);
    }

    // ---- promise 20

    private static void lost(LoopGuesses x, int ten, int top, int bottom) {
        due("lost(" + ten + ", true)", x.lost(ten, true), top);
        due("lost(" + ten + ", false)", x.lost(ten, false), bottom);
    }

    private static void lostRange() {
        Document.says("Returns the part of the probability; BAD if x is out of range.");
        LoopGuesses x = with(ALL_NEEDED);
        for (int wrong : new int[] {-1, 11, MIN, MAX}) {
            lost(x, wrong, BAD, BAD);
            lost(new LoopGuesses(), wrong, BAD, BAD);
        }
        lost(x, 0, 1, 1);
        lost(x, 1, 59049, 100000);
        lost(x, 9, 1, 100000);
        lost(x, 10, 0, 1);
    }

    private static void lostEnds() {
        Document.says("if each active guess is lost (switched off) with the probability x / 10, independently");
        for (String text : new String[] {ALL_NEEDED, ONE_ENOUGH, ONE_OR_FOUR, TWO_PAIRS}) {
            lost(with(text), 0, 1, 1);
            lost(with(text), 10, 0, 1);
        }
        // Proved without any guess: sure at both ends and between.
        for (int ten = 0; ten <= 10; ten++) {
            lost(with("(a<5)!a=5;a=a;a=a;a=a;a=a;a=a"), ten, 1, 1);
            lost(with("(a<5)!a=4;a=a;a=a;a=a;a=a;a=a"), ten, 0, 1);
        }
    }

    private static void lostParts() {
        Document.says("Computes the probability that all checks are proved");
        int[] top = {1, 59049, 1024, 16807, 243, 1, 32, 243, 1, 1, 0};
        int[] bottom = {1, 100000, 3125, 100000, 3125, 32, 3125, 100000, 3125, 100000, 1};
        for (int ten = 0; ten <= 10; ten++) {
            lost(with(ALL_NEEDED), ten, top[ten], bottom[ten]);
        }
        lost(with(ONE_ENOUGH), 1, 99999, 100000);
        lost(with(ONE_ENOUGH), 9, 100000 - 59049, 100000);
        lost(with(ONE_ENOUGH), 5, 31, 32);
        lost(with(ONE_OR_FOUR), 1, 96561, 100000);
        lost(with(ONE_OR_FOUR), 5, 17, 32);
        lost(with(ONE_OR_FOUR), 9, 10009, 100000);
        // 1 - (1 - 0.25) * (1 - 0.25)
        lost(with(TWO_PAIRS), 5, 7, 16);
        LoopGuesses x = with(ALL_NEEDED);
        x.turn(0);
        lost(x, 0, 0, 1);
        lost(x, 5, 0, 1);
    }

    private static void lostWithoutGuesses() {
        Document.says("the probability that all checks are proved");
        for (int ten = 0; ten <= 10; ten++) {
            lost(new LoopGuesses(), ten, 1, 1);
            lost(with("!a=a"), ten, 1, 1);
            lost(with("!a#a"), ten, 0, 1);
            lost(with("!a=a!a#a"), ten, 0, 1);
            lost(with(";a<1;a<1;a<1;a<1;a<1"), ten, 1, 1);
        }
        LoopGuesses x = with(ONE_ENOUGH);
        turnAll(x);
        lost(x, 0, 0, 1);
        lost(x, 10, 0, 1);
        x.turn(3);
        lost(x, 0, 1, 1);
        lost(x, 3, 7, 10);
        lost(x, 4, 3, 5);
        lost(x, 5, 1, 2);
        lost(x, 10, 0, 1);
    }

    private static void lowestTerms() {
        Document.says("Fractions are in lowest terms with a positive denominator (0 is 0/1); the parameter upper is true for the"
                + " numerator and false for the denominator.");
        LoopGuesses x = with("a=0b=0(c#c)!a<1!b<1;a=0;b=0");
        // 64/100, 36/100, 4/100
        lost(x, 2, 16, 25);
        lost(x, 4, 9, 25);
        lost(x, 8, 1, 25);
        share(x, 0, 1, 1);
        // 2/6 and 4/6
        LoopGuesses y = with("a=0b=0(a<3a+b+)!a=3;a<4;a=b;b<4");
        share(y, 0, 2, 3);
        share(y, 1, 1, 6);
        share(y, 2, 1, 6);
    }
}
