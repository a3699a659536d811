import java.util.ArrayList;
import java.util.List;

/**
 * "A call that returns an error code changes nothing", for each error code of each promise: of two objects that were
 * used alike one gets the refused call besides, and then both must answer alike whatever is asked, what cannot be
 * looked at directly (the text, the acts, the slots, the observations, the seed) by calls that use it up.
 */
public final class RefusedTest {
    private static final int UNKNOWN = -1, BAD = -2, LATE = -3, FULL = -4;
    private static final int MIN = Integer.MIN_VALUE, MAX = Integer.MAX_VALUE;
    private static final String TEXT = "a=0b=1(a<3a+{b=a|})!a=3!b<4;a<4;b<4;a<b;c=0";

    private interface Call {
        long on(LoopGuesses x);
    }

    private interface Use {
        void of(LoopGuesses x);
    }

    private static int refused = 0;

    public static void main(String[] args) {
        Document.says("A call that returns an error code changes nothing.");
        always("much used", RefusedTest::muchUsed);
        always("full", RefusedTest::full);
        always("with a text that has a fault", RefusedTest::withFault);
        whenFull();
        whenEmpty();
        whenLate();
        codes();
        severalCodes();
        Document.says("Checks a sequence of n acts and claims, which begin with the present start and switches; nothing changes.");
        changesNothing();
        Testing.due("refused calls were tried", refused > 150 ? 1 : 0, 1);
        Testing.end();
    }

    // ---- objects

    /** Acts, observations, slots and a seed; the text goes on as the beginning of another program. */
    private static void muchUsed(LoopGuesses x) {
        Testing.writeAll(x, TEXT);
        x.program();
        x.seed(-5);
        x.begin(1, 4);
        x.turn(1);
        x.keep(0);
        x.begin(2, 0);
        x.turn(3);
        x.keep(1);
        x.see(0, 0);
        x.see(1, 1);
        x.begin(1, 6);
        x.turn(1);
        x.drawn(2);
        Testing.writeAll(x, ";c<5");
    }

    /** The buffer, the acts and the observations are full. */
    private static void full(LoopGuesses x) {
        muchUsed(x);
        for (int i = 0; i < 20; i++) {
            x.begin(i % 2, i % 5);
        }
        for (int i = 0; i < 4; i++) {
            x.see(0, 0);
        }
        x.wipe();
        Testing.writeAll(x, "b-".repeat(30));
    }

    private static void withFault(LoopGuesses x) {
        muchUsed(x);
        Testing.writeAll(x, ";a<1x");
    }

    // ---- what can be known of an object

    private static List<Long> known(LoopGuesses x) {
        List<Long> answers = new ArrayList<>();
        look(x, answers);
        answers.add((long) x.drawn(3));
        answers.add(x.seed(11));
        for (int i = 0; i < 15; i++) {
            answers.add((long) x.undo());
            setup(x, answers);
        }
        for (int slot = 0; slot < 2; slot++) {
            answers.add((long) x.again(slot));
            setup(x, answers);
        }
        answers.add((long) x.fault());
        answers.add((long) x.program());
        look(x, answers);
        answers.add((long) x.write('+'));
        answers.add((long) x.fault());
        answers.add((long) x.wipe());
        answers.add((long) x.unsee());
        return answers;
    }

    private static void setup(LoopGuesses x, List<Long> answers) {
        for (int variable = 0; variable < 3; variable++) {
            answers.add((long) x.start(variable));
        }
        answers.add((long) x.about(4));
    }

    private static void look(LoopGuesses x, List<Long> answers) {
        for (int what = 0; what < 12; what++) {
            answers.add((long) x.about(what));
        }
        for (int what = 0; what < 4; what++) {
            answers.add((long) x.loop(0, what));
            answers.add((long) x.check(0, what));
            answers.add((long) x.check(1, what));
        }
        setup(x, answers);
        for (int what = 0; what < 2; what++) {
            answers.add((long) x.fewest(what));
            answers.add((long) x.which(what));
        }
        for (int guess = 0; guess < 4; guess++) {
            answers.add((long) x.share(guess, true));
            answers.add((long) x.falls(0, 1 << guess));
        }
        answers.add((long) x.lost(3, true));
        answers.add((long) x.judge(2, 30014001L));
        answers.add((long) x.fault());
    }

    // ---- calls

    private static void refused(String name, Use use, String call, Call it, int code) {
        refused++;
        LoopGuesses x = new LoopGuesses();
        LoopGuesses twin = new LoopGuesses();
        use.of(x);
        use.of(twin);
        Testing.due(call + " of an object " + name, it.on(x), code);
        Testing.due(call + " once more", it.on(x), code);
        alike(call + " of an object " + name, x, twin);
    }

    private static void alike(String call, LoopGuesses x, LoopGuesses twin) {
        List<Long> got = known(x);
        List<Long> want = known(twin);
        Testing.due("how many answers behind " + call, got.size(), want.size());
        for (int i = 0; i < want.size(); i++) {
            Testing.due("the answer " + i + " behind " + call, got.get(i), want.get(i));
        }
    }

    /** What is refused by the arguments alone, or by the program: 1 loop, 2 checks and 4 guesses. */
    private static void always(String name, Use use) {
        for (int letter : new int[] {-1, 256, MIN, MAX}) {
            refused(name, use, "write(" + letter + ")", x -> x.write(letter), BAD);
        }
        for (int what : new int[] {-1, 12, MIN, MAX}) {
            refused(name, use, "about(" + what + ")", x -> x.about(what), BAD);
        }
        for (int loop : new int[] {-1, 1, MIN, MAX}) {
            refused(name, use, "loop(" + loop + ", 0)", x -> x.loop(loop, 0), UNKNOWN);
            refused(name, use, "falls(" + loop + ", 0)", x -> x.falls(loop, 0), UNKNOWN);
        }
        for (int what : new int[] {-1, 4, MIN, MAX}) {
            refused(name, use, "loop(0, " + what + ")", x -> x.loop(0, what), BAD);
            refused(name, use, "check(0, " + what + ")", x -> x.check(0, what), BAD);
        }
        for (int check : new int[] {-1, 2, MIN, MAX}) {
            refused(name, use, "check(" + check + ", 0)", x -> x.check(check, 0), UNKNOWN);
            refused(name, use, "see(" + check + ", 0)", x -> x.see(check, 0), UNKNOWN);
            refused(name, use, "see(" + check + ", 2)", x -> x.see(check, 2), UNKNOWN);
        }
        for (int variable : new int[] {-1, 3, MIN, MAX}) {
            refused(name, use, "start(" + variable + ")", x -> x.start(variable), UNKNOWN);
            refused(name, use, "begin(" + variable + ", 0)", x -> x.begin(variable, 0), UNKNOWN);
            refused(name, use, "begin(" + variable + ", 7)", x -> x.begin(variable, 7), UNKNOWN);
        }
        for (int v : new int[] {-1, 7, MIN, MAX}) {
            refused(name, use, "begin(1, " + v + ")", x -> x.begin(1, v), BAD);
        }
        for (int guess : new int[] {-1, 4, 32, MIN, MAX}) {
            refused(name, use, "turn(" + guess + ")", x -> x.turn(guess), UNKNOWN);
            refused(name, use, "share(" + guess + ", true)", x -> x.share(guess, true), UNKNOWN);
        }
        // The guess 3 is switched off.
        for (int set : new int[] {-1, 8, 16, 31, MIN, MAX}) {
            refused(name, use, "falls(0, " + set + ")", x -> x.falls(0, set), BAD);
        }
        refused(name, use, "share(3, false)", x -> x.share(3, false), LATE);
        byRange(name, use);
    }

    private static void byRange(String name, Use use) {
        for (int what : new int[] {-1, 2, MIN, MAX}) {
            refused(name, use, "fewest(" + what + ")", x -> x.fewest(what), BAD);
            refused(name, use, "which(" + what + ")", x -> x.which(what), BAD);
            refused(name, use, "see(1, " + what + ")", x -> x.see(1, what), BAD);
            refused(name, use, "keep(" + what + ")", x -> x.keep(what), UNKNOWN);
            refused(name, use, "again(" + what + ")", x -> x.again(what), UNKNOWN);
        }
        for (int n : new int[] {-1, 0, 5, MIN, MAX}) {
            refused(name, use, "judge(" + n + ", 1002)", x -> x.judge(n, 1002), BAD);
        }
        for (long row : new long[] {-1, -1002, 10000, 10021002, Long.MIN_VALUE, Long.MAX_VALUE}) {
            refused(name, use, "judge(1, " + row + ")", x -> x.judge(1, row), BAD);
        }
        for (int ten : new int[] {-1, 11, MIN, MAX}) {
            refused(name, use, "lost(" + ten + ", true)", x -> x.lost(ten, true), BAD);
        }
        for (int m : new int[] {-1, 0, 21, MIN, MAX}) {
            refused(name, use, "drawn(" + m + ")", x -> x.drawn(m), BAD);
        }
    }

    private static void whenFull() {
        for (int letter : new int[] {0, 'a', '+', ';', 255}) {
            refused("full", RefusedTest::full, "write(" + letter + ")", x -> x.write(letter), FULL);
        }
        for (int check = 0; check < 2; check++) {
            int which = check;
            refused("full", RefusedTest::full, "see(" + check + ", 0)", x -> x.see(which, 0), FULL);
            refused("full", RefusedTest::full, "see(" + check + ", 1)", x -> x.see(which, 1), FULL);
        }
    }

    /** An object without a program has no loop, check, guess, act or slot. */
    private static void whenEmpty() {
        Use none = x -> x.seed(3);
        refused("that is new", none, "loop(0, 0)", x -> x.loop(0, 0), UNKNOWN);
        refused("that is new", none, "check(0, 0)", x -> x.check(0, 0), UNKNOWN);
        refused("that is new", none, "turn(0)", x -> x.turn(0), UNKNOWN);
        refused("that is new", none, "falls(0, 0)", x -> x.falls(0, 0), UNKNOWN);
        refused("that is new", none, "share(0, true)", x -> x.share(0, true), UNKNOWN);
        refused("that is new", none, "see(0, 0)", x -> x.see(0, 0), UNKNOWN);
        refused("that is new", none, "undo()", x -> x.undo(), LATE);
        refused("that is new", none, "again(0)", x -> x.again(0), LATE);
        refused("that is new", none, "again(1)", x -> x.again(1), LATE);
        refused("that is new", none, "begin(0, 7)", x -> x.begin(0, 7), BAD);
    }

    private static void whenLate() {
        refused("with a fault", RefusedTest::withFault, "program()", x -> x.program(), LATE);
        refused("with an incomplete text", x -> {
            muchUsed(x);
            x.write(';');
        }, "program()", x -> x.program(), LATE);
        refused("with a fault in another text", x -> {
            muchUsed(x);
            x.wipe();
            // What is read ahead of the fault is a program with other checks, loops and guesses.
            Testing.writeAll(x, "!c=1(c<2)!c=2(c<1){|}!c=3;c<2;c<1;;");
        }, "program()", x -> x.program(), LATE);
        refused("with a full buffer that has a fault", x -> {
            full(x);
            x.wipe();
            Testing.writeAll(x, "b-".repeat(29) + "b=");
        }, "program()", x -> x.program(), LATE);
        Use undone = x -> {
            muchUsed(x);
            for (int i = 0; i < 6; i++) {
                x.undo();
            }
        };
        refused("whose acts are undone", undone, "undo()", x -> x.undo(), LATE);
        Use restored = x -> {
            muchUsed(x);
            x.again(1);
        };
        refused("that was restored", restored, "undo()", x -> x.undo(), LATE);
        Use oneSlot = x -> {
            Testing.writeAll(x, TEXT);
            x.program();
            x.begin(1, 4);
            x.turn(1);
            x.keep(0);
            x.begin(2, 4);
        };
        refused("with one slot", oneSlot, "again(1)", x -> x.again(1), LATE);
    }

    private static void codes() {
        Document.says("The error codes are UNKNOWN (-1: there is no such variable, guess, loop, check or slot), BAD (-2: another"
                + " argument is out of range), LATE (-3: the call is not possible now), FULL (-4: there is no room).");
        Testing.due("UNKNOWN", LoopGuesses.UNKNOWN, -1);
        Testing.due("BAD", LoopGuesses.BAD, -2);
        Testing.due("LATE", LoopGuesses.LATE, -3);
        Testing.due("FULL", LoopGuesses.FULL, -4);
        Testing.due("NONE", LoopGuesses.NONE, -9);
    }

    /** Each promise by which several codes can apply at once, with all of them. */
    private static void severalCodes() {
        Document.says("If several of them apply, the one that comes first in the description of the result is returned.");
        Use full = RefusedTest::full;
        refused("full", full, "write(256): BAD, FULL", x -> x.write(256), BAD);
        refused("full", full, "write(-1): BAD, FULL", x -> x.write(-1), BAD);
        refused("full", full, "loop(1, 4): UNKNOWN, BAD", x -> x.loop(1, 4), UNKNOWN);
        refused("full", full, "loop(-1, -1): UNKNOWN, BAD", x -> x.loop(-1, -1), UNKNOWN);
        refused("full", full, "check(2, 4): UNKNOWN, BAD", x -> x.check(2, 4), UNKNOWN);
        refused("full", full, "check(-1, -1): UNKNOWN, BAD", x -> x.check(-1, -1), UNKNOWN);
        refused("full", full, "begin(3, 7): UNKNOWN, BAD", x -> x.begin(3, 7), UNKNOWN);
        refused("full", full, "begin(-1, -1): UNKNOWN, BAD", x -> x.begin(-1, -1), UNKNOWN);
        refused("full", full, "falls(1, 16): UNKNOWN, BAD", x -> x.falls(1, 16), UNKNOWN);
        refused("full", full, "falls(1, 8): UNKNOWN, BAD by a guess that is off", x -> x.falls(1, 8), UNKNOWN);
        refused("full", full, "falls(-1, -1): UNKNOWN, BAD", x -> x.falls(-1, -1), UNKNOWN);
        refused("full", full, "see(2, 2): UNKNOWN, BAD, FULL", x -> x.see(2, 2), UNKNOWN);
        refused("full", full, "see(-1, -1): UNKNOWN, BAD, FULL", x -> x.see(-1, -1), UNKNOWN);
        refused("full", full, "see(2, 1): UNKNOWN, FULL", x -> x.see(2, 1), UNKNOWN);
        refused("full", full, "see(1, 2): BAD, FULL", x -> x.see(1, 2), BAD);
        refused("full", full, "see(1, -1): BAD, FULL", x -> x.see(1, -1), BAD);
        refused("full", full, "judge(0, -1): BAD twice", x -> x.judge(0, -1), BAD);
        refused("much used", RefusedTest::muchUsed, "see(2, 2): UNKNOWN, BAD", x -> x.see(2, 2), UNKNOWN);
        Use empty = x -> x.begin(0, 1);
        refused("with empty slots", empty, "again(2): UNKNOWN, not LATE", x -> x.again(2), UNKNOWN);
        refused("with empty slots", empty, "again(-1): UNKNOWN, not LATE", x -> x.again(-1), UNKNOWN);
        Use allOff = x -> {
            muchUsed(x);
            x.turn(0);
            x.turn(1);
            x.turn(2);
        };
        refused("with no active guess", allOff, "share(4, true): UNKNOWN, not LATE", x -> x.share(4, true), UNKNOWN);
        refused("with no active guess", allOff, "share(-1, true): UNKNOWN, not LATE", x -> x.share(-1, true), UNKNOWN);
        refused("with no active guess", allOff, "share(0, true)", x -> x.share(0, true), LATE);
    }

    // ---- calls that are not refused, but change nothing

    private static void unchanged(String name, Use use, String call, Call it) {
        LoopGuesses x = new LoopGuesses();
        LoopGuesses twin = new LoopGuesses();
        use.of(x);
        use.of(twin);
        it.on(x);
        alike(call + " of an object " + name, x, twin);
    }

    private static void changesNothing() {
        for (Use use : List.<Use>of(RefusedTest::muchUsed, RefusedTest::full, RefusedTest::withFault)) {
            unchanged("used", use, "judge of starts", x -> x.judge(4, 1002110312041106L));
            unchanged("used", use, "judge of switches", x -> x.judge(4, 2001210122013001L));
            unchanged("used", use, "judge with a wrong end", x -> x.judge(4, 1000200121019999L));
            unchanged("used", use, "judge of claims", x -> x.judge(4, 3001401050016333L));
            unchanged("used", use, "fault()", x -> x.fault());
            unchanged("used", use, "fewest(1)", x -> x.fewest(1));
            unchanged("used", use, "share(0, false)", x -> x.share(0, false));
            unchanged("used", use, "lost(5, false)", x -> x.lost(5, false));
            unchanged("used", use, "falls(0, 7)", x -> x.falls(0, 7));
            unchanged("used", use, "which(1)", x -> x.which(1));
            unchanged("used", use, "check(1, 3)", x -> x.check(1, 3));
            unchanged("used", use, "loop(0, 2)", x -> x.loop(0, 2));
            unchanged("used", use, "about(8)", x -> x.about(8));
            unchanged("used", use, "start(2)", x -> x.start(2));
            unchanged("used", use, "drawn(20), and the seed set back", x -> {
                long before = x.seed(5);
                x.drawn(20);
                return x.seed(before);
            });
        }
    }
}
