/** Each promise by hand: ordinary inputs, edges and wrong inputs. */
public final class PromisesTest {
    private static final int UNKNOWN = -1, BAD = -2, LATE = -3, FULL = -4, NONE = -9;
    private static final int[] FAR = {Integer.MIN_VALUE, -1000000, -1, 1000000, Integer.MAX_VALUE};

    /** A loop that counts a up to 3; the guess 0 proves the check, 1 is an invariant too, 2 is none. */
    private static final String COUNT = "a=0(a<3a+)!a=3;a<4;a<5;a=0";

    public static void main(String[] args) {
        newObject();
        write();
        wipe();
        fault();
        program();
        about();
        loop();
        check();
        start();
        begin();
        turn();
        undo();
        falls();
        fewest();
        judge();
        judgeWrong();
        share();
        see();
        unsee();
        which();
        lost();
        seed();
        drawn();
        drawnSteps();
        keep();
        again();
        Testing.end();
    }

    private static void due(String call, long got, long want) {
        Testing.due(call, got, want);
    }

    private static void newObject() {
        LoopGuesses x = new LoopGuesses();
        int[] want = {0, 0, 0, 0, 0, 0, 0, 216, 216, 0, 0, 0};
        for (int what = 0; what < want.length; what++) {
            due("1: about(" + what + ")", x.about(what), want[what]);
        }
        for (int variable = 0; variable < 3; variable++) {
            due("1: start(" + variable + ")", x.start(variable), 6);
        }
        due("1: undo()", x.undo(), LATE);
        due("1: again(0)", x.again(0), LATE);
        due("1: again(1)", x.again(1), LATE);
        due("1: seed(3)", x.seed(3), 0);
        due("1: unsee()", x.unsee(), 0);
        due("1: wipe()", x.wipe(), 0);
        due("1: fault()", x.fault(), NONE);
        due("1: UNKNOWN", LoopGuesses.UNKNOWN, UNKNOWN);
        due("1: BAD", LoopGuesses.BAD, BAD);
        due("1: LATE", LoopGuesses.LATE, LATE);
        due("1: FULL", LoopGuesses.FULL, FULL);
        due("1: NONE", LoopGuesses.NONE, NONE);
    }

    private static void write() {
        LoopGuesses x = new LoopGuesses();
        for (int wrong : FAR) {
            due("2: write(" + wrong + ")", x.write(wrong), BAD);
        }
        due("2: write(256)", x.write(256), BAD);
        due("2: write(0)", x.write(0), 1);
        due("2: write(255)", x.write(255), 2);
        for (int i = 3; i <= 60; i++) {
            due("2: write(97), the " + i + "th", x.write(97), i);
        }
        due("2: write(97), the 61st", x.write(97), FULL);
        due("2: write(256), the 61st", x.write(256), BAD);
        due("2: about(11)", x.about(11), 60);
    }

    private static void wipe() {
        LoopGuesses x = Testing.withProgram(COUNT);
        due("3: wipe()", x.wipe(), COUNT.length());
        due("3: wipe() again", x.wipe(), 0);
        due("3: the program stays", x.about(3), 3);
        due("3: write(97)", x.write(97), 1);
        for (int i = 0; i < 60; i++) {
            x.write(97);
        }
        due("3: wipe() of all", x.wipe(), 60);
    }

    private static void fault() {
        LoopGuesses x = Testing.withProgram(COUNT);
        x.begin(0, 2);
        x.write('x');
        due("4: fault()", x.fault(), COUNT.length());
        due("4: the program stays", x.about(3), 3);
        due("4: the start stays", x.start(0), 2);
        due("4: the program proves as before", x.about(5), 1);
        x.wipe();
        Testing.writeAll(x, "b+;a#1");
        due("4: fault() of a program", x.fault(), NONE);
        due("4: it is not the program yet", x.about(5), 1);
    }

    private static void program() {
        LoopGuesses x = Testing.withProgram(COUNT);
        x.begin(0, 2);
        x.turn(1);
        x.see(0, 0);
        x.seed(99);
        x.keep(0);
        x.keep(1);
        due("5: program() again", x.program(), 4);
        due("5: start(0)", x.start(0), 6);
        due("5: about(4)", x.about(4), 0);
        due("5: about(9)", x.about(9), 0);
        due("5: undo()", x.undo(), LATE);
        due("5: again(0)", x.again(0), LATE);
        due("5: again(1)", x.again(1), LATE);
        due("5: the observations stay", x.about(10), 1);
        due("5: the buffer stays", x.about(11), COUNT.length());
        due("5: the seed stays", x.seed(0), 99);
        x.begin(0, 4);
        x.write('a');
        due("5: program() with a fault", x.program(), LATE);
        due("5: nothing changes then", x.start(0), 4);
        due("5: nor the program", x.about(5), 1);
        x.wipe();
        due("5: program() of nothing", x.program(), 0);
        due("5: it has no guesses", x.about(3), 0);
        x.wipe();
        Testing.writeAll(x, "{(a<1b+)|{|}}(a<1)@a=1!b=2c?");
        due("5: statements within others count", x.program(), 8);
    }

    private static void about() {
        LoopGuesses x = Testing.withProgram("(a<3a+){b=1|}!a>2!b=1;a<4;b<2");
        x.begin(0, 0);
        x.begin(1, 2);
        x.turn(1);
        x.see(0, 1);
        x.see(1, 0);
        // By the invariants a is 3 behind the loop, but b is not known; really b is 1 or 2.
        int[] want = {2, 1, 1, 2, 2, 1, 1, 6, 6, 3, 2, 29};
        for (int what = 0; what < want.length; what++) {
            due("6: about(" + what + ")", x.about(what), want[what]);
        }
        due("6: about(12)", x.about(12), BAD);
        for (int wrong : FAR) {
            due("6: about(" + wrong + ")", x.about(wrong), BAD);
        }
        LoopGuesses y = Testing.withProgram("a=0(a<3a+)");
        due("6: by the invariants a is 3 or more at the end", y.about(7), 108);
        due("6: really it is 3", y.about(8), 36);
    }

    private static void loop() {
        LoopGuesses x = Testing.withProgram(COUNT);
        due("7: loop(0, 0)", x.loop(0, 0), 3);
        due("7: loop(0, 1)", x.loop(0, 1), 144);
        due("7: loop(0, 2)", x.loop(0, 2), 144);
        due("7: loop(0, 3)", x.loop(0, 3), 144);
        x.turn(0);
        due("7: loop(0, 0) without guess 0", x.loop(0, 0), 2);
        due("7: loop(0, 1) without guess 0", x.loop(0, 1), 180);
        due("7: loop(0, 2) without guess 0", x.loop(0, 2), 144);
        due("7: loop(0, 3) without guess 0", x.loop(0, 3), 144);
        due("7: loop(0, 4)", x.loop(0, 4), BAD);
        due("7: loop(0, -1)", x.loop(0, -1), BAD);
        due("7: loop(1, 0)", x.loop(1, 0), UNKNOWN);
        due("7: loop(1, 9)", x.loop(1, 9), UNKNOWN);
        for (int wrong : FAR) {
            due("7: loop(" + wrong + ", 0)", x.loop(wrong, 0), UNKNOWN);
            due("7: loop(0, " + wrong + ")", x.loop(0, wrong), BAD);
        }
        // The inner loop is not reached, but all states are in it by no guess.
        LoopGuesses y = Testing.withProgram("@a#a(b<2(c<1c+)b+)");
        due("7: nothing comes to a loop", y.loop(0, 2), 0);
        due("7: states in a loop to which nothing comes", y.loop(0, 1), 216);
        due("7: what comes to it from its end", y.loop(0, 3), 150);
        due("7: really nothing comes to the inner one", y.loop(1, 2), 0);
    }

    private static void check() {
        LoopGuesses x = Testing.withProgram(COUNT);
        due("8: check(0, 0)", x.check(0, 0), 36);
        due("8: check(0, 1)", x.check(0, 1), 36);
        due("8: check(0, 2)", x.check(0, 2), NONE);
        due("8: check(0, 3)", x.check(0, 3), NONE);
        x.turn(0);
        due("8: check(0, 0) without guess 0", x.check(0, 0), 72);
        due("8: check(0, 2) without guess 0", x.check(0, 2), 400);
        due("8: check(0, 3) without guess 0", x.check(0, 3), NONE);
        due("8: check(0, 4)", x.check(0, 4), BAD);
        due("8: check(1, 4)", x.check(1, 4), UNKNOWN);
        for (int wrong : FAR) {
            due("8: check(" + wrong + ", 0)", x.check(wrong, 0), UNKNOWN);
            due("8: check(0, " + wrong + ")", x.check(0, wrong), BAD);
        }
        LoopGuesses y = Testing.withProgram("!b<c!b#0@c=5!a=b");
        y.begin(0, 3);
        due("8: the smallest that fails", y.check(0, 3), 300);
        due("8: a check lets pass what is true", y.check(1, 1), 15);
        due("8: the next one that fails", y.check(1, 2), 301);
        due("8: behind an assumption", y.check(2, 1), 4);
        due("8: the last one that fails", y.check(2, 3), 315);
    }

    private static void start() {
        LoopGuesses x = new LoopGuesses();
        x.begin(2, 0);
        x.begin(1, 5);
        due("9: start(0)", x.start(0), 6);
        due("9: start(1)", x.start(1), 5);
        due("9: start(2)", x.start(2), 0);
        due("9: start(3)", x.start(3), UNKNOWN);
        for (int wrong : FAR) {
            due("9: start(" + wrong + ")", x.start(wrong), UNKNOWN);
        }
    }

    private static void begin() {
        LoopGuesses x = new LoopGuesses();
        due("10: begin(0, 5)", x.begin(0, 5), 6);
        due("10: begin(0, 0)", x.begin(0, 0), 5);
        due("10: begin(0, 0) again", x.begin(0, 0), 0);
        due("10: it is an act all the same", x.about(9), 3);
        due("10: begin(1, 3)", x.begin(1, 3), 6);
        due("10: begin(2, 6)", x.begin(2, 6), 6);
        due("10: about(8)", x.about(8), 6);
        due("10: which(1)", x.which(1), 30);
        due("10: begin(0, 7)", x.begin(0, 7), BAD);
        due("10: begin(0, -1)", x.begin(0, -1), BAD);
        due("10: begin(3, 7)", x.begin(3, 7), UNKNOWN);
        for (int wrong : FAR) {
            due("10: begin(" + wrong + ", 0)", x.begin(wrong, 0), UNKNOWN);
            due("10: begin(2, " + wrong + ")", x.begin(2, wrong), BAD);
        }
        due("10: errors are no acts", x.about(9), 5);
    }

    private static void turn() {
        LoopGuesses x = Testing.withProgram(COUNT);
        due("11: turn(0)", x.turn(0), 1);
        due("11: turn(2)", x.turn(2), 1);
        due("11: about(4)", x.about(4), 5);
        due("11: about(5)", x.about(5), 0);
        due("11: turn(0) again", x.turn(0), 0);
        due("11: about(4)", x.about(4), 4);
        due("11: about(5)", x.about(5), 1);
        due("11: turn(3)", x.turn(3), UNKNOWN);
        for (int wrong : FAR) {
            due("11: turn(" + wrong + ")", x.turn(wrong), UNKNOWN);
        }
        due("11: about(9)", x.about(9), 3);
    }

    private static void undo() {
        LoopGuesses x = Testing.withProgram(COUNT);
        x.begin(1, 4);
        x.turn(2);
        x.begin(1, 4);
        x.begin(1, 2);
        x.turn(2);
        due("12: undo() a turn", x.undo(), 4);
        due("12: about(4)", x.about(4), 4);
        due("12: undo() a begin", x.undo(), 3);
        due("12: start(1)", x.start(1), 4);
        due("12: undo() of nothing different", x.undo(), 2);
        due("12: start(1)", x.start(1), 4);
        due("12: undo() a turn", x.undo(), 1);
        due("12: about(4)", x.about(4), 0);
        due("12: undo() the first", x.undo(), 0);
        due("12: start(1)", x.start(1), 6);
        due("12: undo() of none", x.undo(), LATE);
        for (int i = 0; i < 20; i++) {
            x.begin(i % 3, i % 6);
        }
        for (int i = 13; i >= 0; i--) {
            due("12: undo() of 14", x.undo(), i);
        }
        due("12: undo() of the 15th", x.undo(), LATE);
        due("12: what 6 acts left in a", x.start(0), 3);
        due("12: what 6 acts left in b", x.start(1), 4);
        due("12: what 6 acts left in c", x.start(2), 5);
    }

    private static void falls() {
        LoopGuesses x = Testing.withProgram(COUNT);
        due("13: falls(0, 0)", x.falls(0, 0), NONE);
        due("13: falls(0, 3)", x.falls(0, 3), NONE);
        due("13: falls(0, 4)", x.falls(0, 4), 2);
        due("13: falls(0, 7)", x.falls(0, 7), 2);
        due("13: falls(0, 8)", x.falls(0, 8), BAD);
        due("13: falls(0, -1)", x.falls(0, -1), BAD);
        due("13: falls(1, 8)", x.falls(1, 8), UNKNOWN);
        x.turn(1);
        due("13: falls(0, 2) when it is off", x.falls(0, 2), BAD);
        due("13: falls(0, 1)", x.falls(0, 1), NONE);
        for (int wrong : FAR) {
            due("13: falls(" + wrong + ", 0)", x.falls(wrong, 0), UNKNOWN);
        }
        due("13: falls(0, MIN)", x.falls(0, Integer.MIN_VALUE), BAD);
        // In the second loop b<3 needs the first one's guesses; with b<2 alone b goes on to 2.
        LoopGuesses y = Testing.withProgram("b=0(b<2b+)(c<5c+);b<3;b<2;b#2");
        due("13: falls(1, 1) by the invariants of the other loop", y.falls(1, 1), NONE);
        due("13: falls(1, 2)", y.falls(1, 2), 1);
        due("13: falls(1, 6)", y.falls(1, 6), 1);
        due("13: falls(1, 4)", y.falls(1, 4), 2);
        due("13: falls(0, 6)", y.falls(0, 6), 1);
        due("13: the invariants stay", y.loop(1, 0), 1);
    }

    private static void fewest() {
        LoopGuesses x = Testing.withProgram(COUNT);
        due("14: fewest(0)", x.fewest(0), 1);
        due("14: fewest(1)", x.fewest(1), 1);
        x.turn(0);
        due("14: fewest(0) if nothing is proved", x.fewest(0), 0);
        due("14: fewest(1) if nothing is proved", x.fewest(1), 0);
        due("14: fewest(2)", x.fewest(2), BAD);
        for (int wrong : FAR) {
            due("14: fewest(" + wrong + ")", x.fewest(wrong), BAD);
        }
        // b<4 and a=b are needed together; c#0 proves the other check, as c>0 does.
        LoopGuesses y = Testing.withProgram("a=0b=0c=1(a<3a+b+)!a=3!c#0;c>0;a=b;c#0;b<4");
        due("14: fewest(0) of four", y.fewest(0), 3);
        due("14: fewest(1) of four", y.fewest(1), 11);
        y.turn(0);
        due("14: fewest(1) of three", y.fewest(1), 14);
        due("14: the switches stay", y.about(4), 1);
    }

    private static void judge() {
        LoopGuesses x = Testing.withProgram(COUNT);
        due("15: it is proved", x.judge(1, 3001), NONE);
        due("15: it is not proved", x.judge(1, 3000), 0);
        due("15: it is safe", x.judge(1, 4001), NONE);
        due("15: it is not safe", x.judge(1, 4000), 0);
        due("15: guess 0 off, not proved, on, proved", x.judge(4, 2001300020003001L), NONE);
        due("15: guess 0 off, proved", x.judge(2, 20013001L), 1);
        due("15: safe without guesses", x.judge(4, 2001210122014001L), NONE);
        due("15: guess 1 is given", x.judge(1, 5011), NONE);
        due("15: guess 2 is not given", x.judge(1, 5020), NONE);
        due("15: guess 2 is given", x.judge(1, 5021), 0);
        due("15: guess 1 off is not given", x.judge(2, 21015010L), NONE);
        due("15: 300 is reached", x.judge(1, 6300), NONE);
        due("15: 200 is reached", x.judge(1, 6200), 0);
        due("15: with b = 1 in the start, 310 and not 320", x.judge(3, 110163106320L), 2);
        due("15: the start is any again", x.judge(4, 1101110663206355L), NONE);
        due("15: nothing changes", x.start(1), 6);
        due("15: no act", x.about(9), 0);
        due("15: no switch", x.about(4), 0);
        x.turn(0);
        due("15: from the present switches", x.judge(2, 30002000L), NONE);
        x.begin(2, 5);
        due("15: from the present start", x.judge(1, 6300), 0);
        due("15: the last state", x.judge(1, 6355), NONE);
        due("15: about(5) as before", x.about(5), 0);
    }

    private static void judgeWrong() {
        LoopGuesses x = Testing.withProgram(COUNT);
        long[] wrong = {0, 1, 999, 1300, 1010, 1007, 1900, 2300, 2301, 2010, 2002, 3100, 3101, 3010, 3011, 3002, 4100, 4101, 4011, 4002,
                5100, 5101, 5030, 5031, 5002, 5012, 6600, 6360, 6306, 7000, 8000, 9999};
        for (long row : wrong) {
            due("15: judge(1, " + row + ")", x.judge(1, row), 0);
            due("15: judge(2, 1006 " + row + ")", x.judge(2, 10060000L + row), 1);
        }
        due("15: judge(4, 0)", x.judge(4, 0), 0);
        due("15: judge(4, all but the last)", x.judge(4, 1000100010010000L), 3);
        due("15: judge(4, 9999999999999999)", x.judge(4, 9999999999999999L), 0);
        due("15: judge(4, 10000000000000000)", x.judge(4, 10000000000000000L), BAD);
        due("15: judge(1, 10000)", x.judge(1, 10000), BAD);
        due("15: judge(2, 100000000)", x.judge(2, 100000000L), BAD);
        due("15: judge(3, 1000000000000)", x.judge(3, 1000000000000L), BAD);
        due("15: judge(1, -1)", x.judge(1, -1), BAD);
        due("15: judge(1, MIN)", x.judge(1, Long.MIN_VALUE), BAD);
        due("15: judge(4, MAX)", x.judge(4, Long.MAX_VALUE), BAD);
        due("15: judge(0, 0)", x.judge(0, 0), BAD);
        due("15: judge(5, 3001)", x.judge(5, 3001), BAD);
        for (int n : FAR) {
            due("15: judge(" + n + ", 3001)", x.judge(n, 3001), BAD);
        }
    }

    private static void share() {
        LoopGuesses x = Testing.withProgram(COUNT);
        due("16: share(0, true)", x.share(0, true), 1);
        due("16: share(0, false)", x.share(0, false), 1);
        due("16: share(1, true)", x.share(1, true), 0);
        due("16: share(1, false)", x.share(1, false), 1);
        due("16: share(3, true)", x.share(3, true), UNKNOWN);
        x.turn(0);
        due("16: share(0, true) when it is off", x.share(0, true), LATE);
        due("16: share(0, false) when it is off", x.share(0, false), LATE);
        for (int wrong : FAR) {
            due("16: share(" + wrong + ", true)", x.share(wrong, true), UNKNOWN);
        }
        // c>0 and c#0 divide one check; a=b and b<4 prove the other one together.
        LoopGuesses y = Testing.withProgram("a=0b=0c=1(a<3a+b+)!a=3!c#0;c>0;a=b;c#0;b<4");
        for (int guess = 0; guess < 4; guess++) {
            due("16: share(" + guess + ", true) of four", y.share(guess, true), 1);
            due("16: share(" + guess + ", false) of four", y.share(guess, false), 2);
        }
        y.turn(2);
        due("16: share(0, true) without its rival", y.share(0, true), 1);
        due("16: share(0, false) without its rival", y.share(0, false), 1);
        // a<4 does alone what a=b and b<4 do together.
        LoopGuesses w = Testing.withProgram("a=0b=0(a<3a+b+)!a=3;a<4;a=b;b<4");
        due("16: share(0, true) of sixths", w.share(0, true), 2);
        due("16: share(0, false) of sixths", w.share(0, false), 3);
        due("16: share(1, true) of sixths", w.share(1, true), 1);
        due("16: share(1, false) of sixths", w.share(1, false), 6);
        due("16: share(2, false) of sixths", w.share(2, false), 6);
    }

    private static void see() {
        LoopGuesses x = Testing.withProgram("!a=0!b=0");
        due("17: see(2, 2)", x.see(2, 2), UNKNOWN);
        due("17: see(0, 2)", x.see(0, 2), BAD);
        due("17: see(0, -1)", x.see(0, -1), BAD);
        for (int i = 1; i <= 6; i++) {
            due("17: see, the " + i + "th", x.see(i % 2, i % 2), i);
        }
        due("17: see, the 7th", x.see(0, 1), FULL);
        due("17: see(0, 2), the 7th", x.see(0, 2), BAD);
        due("17: see(2, 0), the 7th", x.see(2, 0), UNKNOWN);
        for (int wrong : FAR) {
            due("17: see(" + wrong + ", 0)", x.see(wrong, 0), UNKNOWN);
            due("17: see(0, " + wrong + ")", x.see(0, wrong), BAD);
        }
        due("17: about(10)", x.about(10), 6);
        due("17: it is no act", x.about(9), 0);
    }

    private static void unsee() {
        LoopGuesses x = Testing.withProgram("!a=0!b=0");
        x.see(0, 1);
        x.see(0, 0);
        due("18: which(0)", x.which(0), 0);
        due("18: unsee()", x.unsee(), 2);
        due("18: unsee() again", x.unsee(), 0);
        due("18: which(0)", x.which(0), 216);
        due("18: see(1, 0)", x.see(1, 0), 1);
    }

    private static void which() {
        LoopGuesses x = Testing.withProgram("!a=0!b=0");
        x.see(0, 0);
        due("19: the first cannot fail", x.which(0), 36);
        x.see(1, 1);
        due("19: the second can", x.which(0), 30);
        due("19: the smallest", x.which(1), 10);
        x.begin(1, 4);
        due("19: with a start", x.which(0), 6);
        due("19: the smallest then", x.which(1), 40);
        x.begin(0, 1);
        due("19: none", x.which(0), 0);
        due("19: no smallest", x.which(1), NONE);
        due("19: which(2)", x.which(2), BAD);
        for (int wrong : FAR) {
            due("19: which(" + wrong + ")", x.which(wrong), BAD);
        }
        x.wipe();
        Testing.writeAll(x, "a+!a>3");
        x.program();
        due("19: an observation of no check that could fail", x.which(0), 0);
        x.unsee();
        x.see(0, 1);
        due("19: backwards through a+", x.which(0), 108);
        x.wipe();
        x.program();
        due("19: could fail, without checks", x.which(0), 0);
        x.wipe();
        Testing.writeAll(x, "(a<4{a+|b?a=b})a-!a=3");
        x.program();
        due("19: a loop and a choice", x.which(0), 180);
        x.see(0, 0);
        due("19: could, and could not", x.which(1), NONE);
        x.unsee();
        x.see(0, 0);
        due("19: could not", x.which(0), 36);
        due("19: the smallest that could not", x.which(1), 400);
        x.wipe();
        x.program();
        due("19: could not, without checks", x.which(0), 216);
    }

    private static void lost() {
        LoopGuesses x = Testing.withProgram(COUNT);
        due("20: lost(0, true)", x.lost(0, true), 1);
        due("20: lost(0, false)", x.lost(0, false), 1);
        due("20: lost(10, true)", x.lost(10, true), 0);
        due("20: lost(10, false)", x.lost(10, false), 1);
        due("20: lost(4, true)", x.lost(4, true), 3);
        due("20: lost(4, false)", x.lost(4, false), 5);
        due("20: lost(11, true)", x.lost(11, true), BAD);
        for (int wrong : FAR) {
            due("20: lost(" + wrong + ", false)", x.lost(wrong, false), BAD);
        }
        x.turn(0);
        due("20: lost(0, true) if it is not proved", x.lost(0, true), 0);
        due("20: lost(0, false) if it is not proved", x.lost(0, false), 1);
        LoopGuesses y = Testing.withProgram("a=0b=0(a<3a+b+)!a=3;a<4;a=b;b<4");
        // 0.9 + 0.1 * 0.81
        due("20: lost(1, true) of two ways", y.lost(1, true), 981);
        due("20: lost(1, false) of two ways", y.lost(1, false), 1000);
        due("20: lost(5, true) of two ways", y.lost(5, true), 5);
        due("20: lost(5, false) of two ways", y.lost(5, false), 8);
        LoopGuesses z = Testing.withProgram("a?;a<1;b<1;c<1;a<2;b<2");
        due("20: without checks all are proved", z.lost(10, true), 1);
        due("20: without checks all are proved", z.lost(7, true), 1);
        LoopGuesses w = Testing.withProgram("(a<5)!a=4;a<1;b<1;c<1;a<2;b<2");
        due("20: a check that is never proved", w.lost(3, true), 0);
    }

    private static void seed() {
        LoopGuesses x = new LoopGuesses();
        due("21: seed(MIN)", x.seed(Long.MIN_VALUE), 0);
        due("21: seed(MAX)", x.seed(Long.MAX_VALUE), Long.MIN_VALUE);
        due("21: seed(-1)", x.seed(-1), Long.MAX_VALUE);
        due("21: seed(0)", x.seed(0), -1);
        x.begin(0, 0);
        x.begin(1, 0);
        x.drawn(1);
        due("21: one draw", x.seed(0), 1442695040888963407L);
        x.begin(2, 0);
        x.drawn(20);
        due("21: no draw", x.seed(0), 0);
    }

    private static long afterDraws(long seed, int draws) {
        long x = seed;
        for (int i = 0; i < draws; i++) {
            x = x * 6364136223846793005L + 1442695040888963407L;
        }
        return x;
    }

    private static void drawn() {
        LoopGuesses x = Testing.withProgram("!a=5");
        x.begin(0, 4);
        due("22: a check fails each time", x.drawn(20), 20);
        due("22: two draws a run", x.seed(7), afterDraws(0, 40));
        x.begin(0, 5);
        due("22: it does not fail", x.drawn(20), 0);
        due("22: drawn(0)", x.drawn(0), BAD);
        due("22: drawn(21)", x.drawn(21), BAD);
        for (int wrong : FAR) {
            due("22: drawn(" + wrong + ")", x.drawn(wrong), BAD);
        }
        due("22: no draw for an error", x.seed(7), afterDraws(7, 40));
        LoopGuesses y = Testing.withProgram("@a=5");
        y.begin(0, 4);
        due("22: an assumption", y.drawn(3), 6);
        LoopGuesses z = Testing.withProgram("{!a#a|@a#a}");
        z.seed(11);
        int sum = z.drawn(20);
        long seed = 11;
        int want = 0;
        for (int i = 0; i < 20; i++) {
            seed = afterDraws(seed, 4);
            want += 1 + (int) ((seed >>> 33) % 2);
        }
        due("22: choices", sum, want);
        due("22: four draws a run", z.seed(0), seed);
    }

    /** A run has at most 60 steps, and nothing is drawn for the 61st. */
    private static void drawnSteps() {
        LoopGuesses x = Testing.withProgram("(a=aa?)");
        for (int variable = 0; variable < 3; variable++) {
            x.begin(variable, 0);
        }
        due("22: a loop without end", x.drawn(1), 3);
        due("22: 30 draws in 60 steps", x.seed(0), afterDraws(0, 30));
        LoopGuesses y = Testing.withProgram("a=0a=0(a=aa?)");
        for (int variable = 0; variable < 3; variable++) {
            y.begin(variable, 0);
        }
        due("22: a loop without end behind two steps", y.drawn(2), 6);
        due("22: 29 draws in 60 steps, twice", y.seed(0), afterDraws(0, 58));
        LoopGuesses z = Testing.withProgram("(a=a{b?|b?})");
        for (int variable = 0; variable < 3; variable++) {
            z.begin(variable, 0);
        }
        due("22: a choice in a loop without end", z.drawn(1), 3);
        due("22: 40 draws in 60 steps", z.seed(0), afterDraws(0, 40));
        // The loops take 6 + 5 * 9 steps from 000.
        String loops = "(a<5a+c=0(c<3c+))";
        due("22: 59 steps", runFrom000(loops + "b+b+b+b+b+b+b+b+"), 0);
        due("22: 60 steps", runFrom000(loops + "b+b+b+b+b+b+b+b+!b=5"), 0);
        due("22: 61 steps", runFrom000(loops + "b+b+b+b+b+b+b+b+b+!b=5"), 3);
        due("22: the 60th step fails", runFrom000(loops + "b+b+b+b+b+b+b+b+!b=4"), 1);
        due("22: the 61st step would fail", runFrom000(loops + "b+b+b+b+b+b+b+b+b+!b=4"), 3);
        due("22: the 60th step is a loop's last", runFrom000(loops + "b+b+b+b+b+b+b+b+(a<5)"), 0);
        due("22: the 61st step is a loop's first", runFrom000(loops + "b+b+b+b+b+b+b+b+b+(a<5)"), 3);
        due("22: choices are steps, their brackets not", runFrom000("{{|}|{|}}" + loops + "b+b+b+b+b+b+b+"), 0);
        due("22: 61 steps with choices", runFrom000("{{|}|{|}}" + loops + "b+b+b+b+b+b+b+b+"), 3);
    }

    private static int runFrom000(String text) {
        LoopGuesses x = Testing.withProgram(text);
        for (int variable = 0; variable < 3; variable++) {
            x.begin(variable, 0);
        }
        return x.drawn(1);
    }

    private static void keep() {
        LoopGuesses x = Testing.withProgram(COUNT);
        due("23: keep(0)", x.keep(0), 0);
        x.turn(0);
        x.turn(2);
        x.begin(1, 1);
        due("23: keep(1)", x.keep(1), 2);
        due("23: keep(2)", x.keep(2), UNKNOWN);
        for (int wrong : FAR) {
            due("23: keep(" + wrong + ")", x.keep(wrong), UNKNOWN);
        }
        due("23: the acts stay", x.about(9), 3);
        x.begin(1, 2);
        due("23: keep(1) in place of it", x.keep(1), 2);
        x.begin(1, 3);
        x.again(1);
        due("23: what was kept last", x.start(1), 2);
    }

    private static void again() {
        LoopGuesses x = Testing.withProgram(COUNT);
        x.turn(1);
        x.begin(0, 4);
        due("24: again(0) of an empty slot", x.again(0), LATE);
        due("24: nothing changes", x.about(9), 2);
        due("24: again(2)", x.again(2), UNKNOWN);
        for (int wrong : FAR) {
            due("24: again(" + wrong + ")", x.again(wrong), UNKNOWN);
        }
        x.keep(0);
        x.turn(1);
        x.turn(0);
        x.turn(2);
        x.begin(0, 5);
        x.begin(2, 1);
        due("24: again(0)", x.again(0), 1);
        due("24: the switches", x.about(4), 2);
        due("24: the start of a", x.start(0), 4);
        due("24: the start of c", x.start(2), 6);
        due("24: no act", x.about(9), 0);
        due("24: undo()", x.undo(), LATE);
        due("24: the checks", x.about(5), 1);
        x.turn(1);
        due("24: again(0) once more", x.again(0), 1);
        due("24: the switches once more", x.about(4), 2);
        due("24: the other slot is empty", x.again(1), LATE);
    }
}
