/** The boundaries of the acts and slots: promises 9 to 12, 23 and 24, and how long an object is used. */
public final class BoundaryActsTest {
    private static final int UNKNOWN = -1, BAD = -2, LATE = -3, NONE = -9;
    private static final int MIN = Integer.MIN_VALUE, MAX = Integer.MAX_VALUE;
    private static final String FIVE = "a=0(b<5b+)!a<1;a<1;a<2;a<3;a<4;a<5";

    public static void main(String[] args) {
        startRange();
        beginRange();
        beginAnswers();
        turnRange();
        turnAnswers();
        switchedOff();
        whatActsAre();
        nothingBecomesDifferent();
        fourteenActs();
        fifteenActs();
        actsBehindUndone();
        undoOrder();
        undoNone();
        keepRange();
        keepAnswers();
        keepReplaces();
        againRange();
        againRestores();
        againForgetsActs();
        slotsOfAnotherProgram();
        fiveHundredCalls();
        Testing.end();
    }

    private static void due(String call, long got, long want) {
        Testing.due(call, got, want);
    }

    private static void starts(LoopGuesses x, int a, int b, int c) {
        due("start(0)", x.start(0), a);
        due("start(1)", x.start(1), b);
        due("start(2)", x.start(2), c);
    }

    // ---- promises 9 and 10

    private static void startRange() {
        Document.says("Returns the value, or 6 for any; UNKNOWN if there is no such variable.");
        LoopGuesses x = new LoopGuesses();
        x.begin(0, 0);
        x.begin(1, 5);
        due("start(-1)", x.start(-1), UNKNOWN);
        starts(x, 0, 5, 6);
        due("start(3)", x.start(3), UNKNOWN);
        due("start(MIN)", x.start(MIN), UNKNOWN);
        due("start(MAX)", x.start(MAX), UNKNOWN);
    }

    private static void beginRange() {
        Document.says("Returns what it was before; UNKNOWN if there is no such variable; BAD if v is out of range.");
        for (int variable = -1; variable <= 3; variable++) {
            LoopGuesses x = new LoopGuesses();
            boolean is = variable >= 0 && variable <= 2;
            for (int v : new int[] {-1, 7, 10, MIN, MAX}) {
                due("begin(" + variable + ", " + v + ")", x.begin(variable, v), is ? BAD : UNKNOWN);
            }
            int was = 6;
            for (int v : new int[] {0, 5, 6, 0, 1, 2, 3, 4, 5, 6}) {
                due("begin(" + variable + ", " + v + ")", x.begin(variable, v), is ? was : UNKNOWN);
                due("start(" + variable + ")", x.start(variable), is ? v : UNKNOWN);
                was = v;
            }
            due("about(9)", x.about(9), is ? 10 : 0);
        }
        LoopGuesses x = new LoopGuesses();
        due("begin(MIN, 0)", x.begin(MIN, 0), UNKNOWN);
        due("begin(MAX, 0)", x.begin(MAX, 0), UNKNOWN);
        due("begin(MAX, MAX)", x.begin(MAX, MAX), UNKNOWN);
        starts(x, 6, 6, 6);
        due("about(9)", x.about(9), 0);
    }

    private static void beginAnswers() {
        Document.says("Changes the start of a variable. This is an act.");
        LoopGuesses x = new LoopGuesses();
        due("begin(1, 4)", x.begin(1, 4), 6);
        starts(x, 6, 4, 6);
        due("about(8)", x.about(8), 36);
        due("begin(1, 6)", x.begin(1, 6), 4);
        starts(x, 6, 6, 6);
        due("about(8)", x.about(8), 216);
        due("about(9)", x.about(9), 2);
    }

    // ---- promise 11

    private static void turnRange() {
        Document.says("Returns 1 if it is switched off then, else 0; UNKNOWN if there is no such guess.");
        for (int guesses = 0; guesses <= 5; guesses++) {
            LoopGuesses x = Testing.withProgram(";a<1".repeat(guesses));
            for (int guess = -1; guess <= 6; guess++) {
                boolean is = guess >= 0 && guess < guesses;
                due("turn(" + guess + ") of " + guesses, x.turn(guess), is ? 1 : UNKNOWN);
                due("about(4)", x.about(4), is ? 1 << guess : 0);
                due("turn(" + guess + ") of " + guesses, x.turn(guess), is ? 0 : UNKNOWN);
                due("about(4)", x.about(4), 0);
            }
            // A shift by 32 would be one by 0.
            for (int guess : new int[] {32, 64, -32, MIN, MAX}) {
                due("turn(" + guess + ") of " + guesses, x.turn(guess), UNKNOWN);
            }
            due("about(9)", x.about(9), 2 * guesses);
        }
    }

    private static void turnAnswers() {
        Document.says("Switches a guess off if it is active, or on if it is switched off. This is an act.");
        LoopGuesses x = Testing.withProgram(FIVE);
        due("the check is proved", x.about(5), 1);
        due("turn(0)", x.turn(0), 1);
        due("it is not proved", x.about(5), 0);
        due("about(9)", x.about(9), 1);
        due("turn(0)", x.turn(0), 0);
        due("it is proved again", x.about(5), 1);
        due("about(9)", x.about(9), 2);
    }

    private static void switchedOff() {
        Document.says("Guesses can be switched off (initially none is); the others are active.");
        LoopGuesses x = Testing.withProgram(FIVE);
        due("about(4) initially", x.about(4), 0);
        due("all are invariants", x.loop(0, 0), 31);
        for (int guess = 4; guess >= 0; guess--) {
            x.turn(guess);
            due("those left", x.loop(0, 0), (1 << guess) - 1);
        }
        due("none is active", x.about(4), 31);
        due("all states are in the loop", x.loop(0, 1), 216);
    }

    // ---- promise 12

    private static void whatActsAre() {
        Document.says("Acts are the successful calls of begin() and turn(), also those by which nothing becomes different.");
        LoopGuesses x = Testing.withProgram(FIVE);
        due("begin(0, 7)", x.begin(0, 7), BAD);
        due("begin(3, 0)", x.begin(3, 0), UNKNOWN);
        due("turn(5)", x.turn(5), UNKNOWN);
        due("about(9) of none", x.about(9), 0);
        x.see(0, 1);
        x.unsee();
        x.keep(0);
        x.seed(4);
        x.drawn(1);
        x.judge(1, 1002);
        x.falls(0, 1);
        x.write('%');
        due("about(9) of none still", x.about(9), 0);
        x.begin(0, 6);
        due("about(9) of one", x.about(9), 1);
        x.turn(4);
        due("about(9) of two", x.about(9), 2);
    }

    private static void nothingBecomesDifferent() {
        Document.says("also those by which nothing becomes different");
        LoopGuesses x = new LoopGuesses();
        due("begin(0, 6)", x.begin(0, 6), 6);
        due("begin(0, 3)", x.begin(0, 3), 6);
        due("begin(0, 3)", x.begin(0, 3), 3);
        due("begin(0, 3)", x.begin(0, 3), 3);
        due("about(9)", x.about(9), 4);
        due("undo()", x.undo(), 3);
        due("start(0)", x.start(0), 3);
        due("undo()", x.undo(), 2);
        due("start(0)", x.start(0), 3);
        due("undo()", x.undo(), 1);
        due("start(0)", x.start(0), 6);
        due("undo()", x.undo(), 0);
        due("start(0)", x.start(0), 6);
        // Fifteen of them push the one out that made a difference.
        x.begin(2, 1);
        for (int i = 0; i < 14; i++) {
            x.begin(2, 1);
        }
        for (int i = 13; i >= 0; i--) {
            due("undo()", x.undo(), i);
        }
        due("undo()", x.undo(), LATE);
        due("start(2)", x.start(2), 1);
    }

    private static void fourteenActs() {
        Document.says("The last 14 acts can be undone, the latest one first.");
        for (int acts = 1; acts <= 14; acts++) {
            LoopGuesses x = Testing.withProgram(FIVE);
            for (int i = 0; i < acts; i++) {
                if (i % 2 == 0) {
                    x.begin(i % 3, i % 6);
                } else {
                    x.turn(i % 5);
                }
                due("about(9)", x.about(9), i + 1);
            }
            for (int i = acts - 1; i >= 0; i--) {
                due("undo() of " + acts, x.undo(), i);
            }
            due("undo() of none left", x.undo(), LATE);
            starts(x, 6, 6, 6);
            due("about(4)", x.about(4), 0);
        }
    }

    private static void fifteenActs() {
        Document.says("The last 14 acts can be undone, the latest one first.");
        for (int more = 1; more <= 16; more++) {
            LoopGuesses x = Testing.withProgram(FIVE);
            // The k-th act, from 0, gives a the value k mod 6.
            for (int i = 0; i < 14 + more; i++) {
                x.begin(0, i % 6);
            }
            due("about(9) of " + (14 + more), x.about(9), 14);
            for (int i = 13; i >= 0; i--) {
                due("undo() of " + (14 + more), x.undo(), i);
                due("start(0)", x.start(0), (more + i - 1) % 6);
            }
            due("undo() of the 15th", x.undo(), LATE);
            due("what the acts before have left", x.start(0), (more - 1) % 6);
            due("about(9) then", x.about(9), 0);
        }
        // Turns are pushed out as begins are.
        LoopGuesses y = Testing.withProgram(FIVE);
        y.turn(3);
        for (int i = 0; i < 14; i++) {
            y.turn(1);
        }
        due("about(4)", y.about(4), 8);
        for (int i = 13; i >= 0; i--) {
            due("undo()", y.undo(), i);
            due("about(4)", y.about(4), i % 2 == 0 ? 8 : 10);
        }
        due("undo()", y.undo(), LATE);
        due("the first turn stays", y.about(4), 8);
    }

    private static void actsBehindUndone() {
        Document.says("Undoes the latest act that has not been undone.");
        LoopGuesses x = new LoopGuesses();
        x.begin(0, 1);
        x.begin(0, 2);
        x.begin(0, 3);
        due("undo()", x.undo(), 2);
        x.begin(0, 4);
        due("about(9)", x.about(9), 3);
        due("undo() of the 4", x.undo(), 2);
        due("start(0)", x.start(0), 2);
        due("undo() of the 2, not of the 3", x.undo(), 1);
        due("start(0)", x.start(0), 1);
        // 14 acts, 3 of them undone, and 4 more: the first one is pushed out.
        LoopGuesses y = new LoopGuesses();
        for (int i = 0; i < 14; i++) {
            y.begin(1, i % 6);
        }
        y.undo();
        y.undo();
        due("undo()", y.undo(), 11);
        for (int i = 0; i < 3; i++) {
            y.begin(2, i);
        }
        due("about(9) of 14", y.about(9), 14);
        y.begin(2, 5);
        due("about(9) of 15", y.about(9), 14);
        for (int i = 13; i >= 0; i--) {
            due("undo()", y.undo(), i);
        }
        due("undo()", y.undo(), LATE);
        starts(y, 6, 0, 6);
    }

    private static void undoOrder() {
        Document.says("Returns how many more acts can be undone");
        LoopGuesses x = Testing.withProgram(FIVE);
        x.begin(0, 1);
        x.turn(2);
        x.begin(0, 4);
        x.turn(2);
        x.turn(0);
        due("undo() of turn(0)", x.undo(), 4);
        due("about(4)", x.about(4), 0);
        due("undo() of the second turn(2)", x.undo(), 3);
        due("about(4)", x.about(4), 4);
        due("start(0)", x.start(0), 4);
        due("undo() of begin(0, 4)", x.undo(), 2);
        due("start(0)", x.start(0), 1);
        due("about(4)", x.about(4), 4);
        due("undo() of the first turn(2)", x.undo(), 1);
        due("about(4)", x.about(4), 0);
        due("undo() of begin(0, 1)", x.undo(), 0);
        due("start(0)", x.start(0), 6);
    }

    private static void undoNone() {
        Document.says("LATE if there is none to undo");
        LoopGuesses x = Testing.withProgram(FIVE);
        due("undo()", x.undo(), LATE);
        due("about(9)", x.about(9), 0);
        x.begin(0, 2);
        due("undo()", x.undo(), 0);
        due("undo()", x.undo(), LATE);
        due("undo()", x.undo(), LATE);
        due("about(9)", x.about(9), 0);
        starts(x, 6, 6, 6);
        due("an act behind it", x.begin(0, 1), 6);
        due("about(9)", x.about(9), 1);
        due("undo()", x.undo(), 0);
        due("start(0)", x.start(0), 6);
    }

    // ---- promises 23 and 24

    private static void keepRange() {
        Document.says("Returns the number of guesses that are switched off; UNKNOWN if there is no such slot.");
        LoopGuesses x = Testing.withProgram(FIVE);
        for (int slot : new int[] {-1, 2, 3, MIN, MAX}) {
            due("keep(" + slot + ")", x.keep(slot), UNKNOWN);
        }
        due("again(0)", x.again(0), LATE);
        due("again(1)", x.again(1), LATE);
        due("keep(0)", x.keep(0), 0);
        due("again(1)", x.again(1), LATE);
        due("keep(1)", x.keep(1), 0);
    }

    private static void keepAnswers() {
        Document.says("Saves the start and which guesses are switched off in a slot, in place of what it had.");
        LoopGuesses x = Testing.withProgram(FIVE);
        for (int guess = 0; guess < 5; guess++) {
            due("keep(1)", x.keep(1), guess);
            x.turn(guess);
        }
        due("keep(1) of all off", x.keep(1), 5);
        due("the acts stay", x.about(9), 5);
        due("they can be undone", x.undo(), 4);
        due("keep(0)", x.keep(0), 4);
        due("again(1)", x.again(1), 5);
        due("about(4)", x.about(4), 31);
        due("again(0)", x.again(0), 4);
        due("about(4)", x.about(4), 15);
    }

    private static void keepReplaces() {
        Document.says("in place of what it had");
        LoopGuesses x = Testing.withProgram(FIVE);
        Testing.start(x, 0, 5, 0);
        x.keep(0);
        Testing.start(x, 5, 0, 6);
        x.turn(4);
        x.keep(1);
        x.turn(0);
        due("keep(0) once more", x.keep(0), 2);
        Testing.start(x, 2, 2, 2);
        x.again(0);
        starts(x, 5, 0, 6);
        due("about(4)", x.about(4), 17);
        x.again(1);
        starts(x, 5, 0, 6);
        due("the other slot has what it had", x.about(4), 16);
    }

    private static void againRange() {
        Document.says("Returns the number of guesses that are switched off then; UNKNOWN if there is no such slot; LATE if the"
                + " slot is empty.");
        LoopGuesses x = Testing.withProgram(FIVE);
        x.begin(0, 3);
        x.turn(1);
        for (int slot : new int[] {-1, 2, MIN, MAX}) {
            due("again(" + slot + ")", x.again(slot), UNKNOWN);
        }
        due("again(0)", x.again(0), LATE);
        due("again(1)", x.again(1), LATE);
        due("the acts stay", x.about(9), 2);
        starts(x, 3, 6, 6);
        x.keep(1);
        due("again(0)", x.again(0), LATE);
        due("again(1)", x.again(1), 1);
        for (int slot : new int[] {-1, 2, MIN, MAX}) {
            due("again(" + slot + ")", x.again(slot), UNKNOWN);
        }
    }

    private static void againRestores() {
        Document.says("Restores what a slot has; the slot keeps it.");
        LoopGuesses x = Testing.withProgram(FIVE);
        x.keep(0);
        Testing.start(x, 5, 5, 5);
        for (int guess = 0; guess < 5; guess++) {
            x.turn(guess);
        }
        x.keep(1);
        for (int i = 0; i < 3; i++) {
            due("again(0)", x.again(0), 0);
            starts(x, 6, 6, 6);
            due("about(4)", x.about(4), 0);
            x.begin(0, 4);
            x.turn(0);
            due("again(1)", x.again(1), 5);
            starts(x, 5, 5, 5);
            due("about(4)", x.about(4), 31);
            x.begin(0, 4);
            x.turn(0);
        }
    }

    private static void againForgetsActs() {
        Document.says("No act can be undone then.");
        LoopGuesses x = Testing.withProgram(FIVE);
        x.begin(0, 3);
        x.keep(0);
        x.turn(0);
        due("about(9)", x.about(9), 2);
        due("again(0)", x.again(0), 0);
        due("about(9)", x.about(9), 0);
        due("undo()", x.undo(), LATE);
        due("start(0)", x.start(0), 3);
        x.turn(4);
        due("about(9)", x.about(9), 1);
        due("undo()", x.undo(), 0);
        due("undo()", x.undo(), LATE);
        due("about(4)", x.about(4), 0);
        due("start(0)", x.start(0), 3);
        due("again(0) without an act", x.again(0), 0);
        due("undo()", x.undo(), LATE);
    }

    private static void slotsOfAnotherProgram() {
        Document.says("no act can be undone, and the slots are empty");
        LoopGuesses x = Testing.withProgram(FIVE);
        x.keep(0);
        x.keep(1);
        x.write('%');
        due("program() with a fault", x.program(), LATE);
        due("again(0)", x.again(0), 0);
        x.wipe();
        due("program() without guesses", x.program(), 0);
        due("again(0)", x.again(0), LATE);
        due("again(1)", x.again(1), LATE);
        due("keep(0)", x.keep(0), 0);
        due("again(0)", x.again(0), 0);
    }

    // ---- how long an object is used

    private static void fiveHundredCalls() {
        Document.says("An object is used for at most 512 calls after it has been made");
        LoopGuesses x = new LoopGuesses();
        for (int i = 1; i <= 511; i++) {
            due("begin, the " + i + "th call", x.begin(0, i % 7), i == 1 ? 6 : (i - 1) % 7);
        }
        due("the 512th call", x.undo(), 13);
        LoopGuesses y = new LoopGuesses();
        for (int i = 0; i < FIVE.length(); i++) {
            y.write(FIVE.charAt(i));
        }
        int calls = FIVE.length();
        for (; calls < 510; calls++) {
            due("program(), call " + calls, y.program(), 4);
        }
        due("the 511th call", y.fewest(1), 1);
        due("the 512th call", y.falls(0, 31), NONE);
        LoopGuesses z = new LoopGuesses();
        long seed = 0;
        for (int i = 1; i <= 511; i++) {
            due("drawn(20), the " + i + "th call", z.drawn(20), 0);
            for (int draw = 0; draw < 60; draw++) {
                seed = seed * 6364136223846793005L + 1442695040888963407L;
            }
        }
        due("the 512th call, behind 30660 draws", z.seed(0), seed);
    }
}
