/**
 * Inference of loop invariants from candidate conditions (guesses), as by the
 * Houdini algorithm, for small programs over three variables with six values.
 *
 * <p>All rows are made in the constructor and used again: no call makes an object.
 */
public final class LoopGuesses {
    public static final int UNKNOWN = -1, BAD = -2, LATE = -3, FULL = -4, NONE = -9;

    private static final int VARIABLES = 3;
    private static final int VALUES = 6;
    /** A start that is any value. */
    private static final int ANY = 6;
    /** Terms below VALUES are digits; from here on they are the variables. */
    private static final int FIRST_NAME = 6;

    private static final int MAX_LETTERS = 60;
    private static final int LAST_LETTER = 255;
    /** A condition, and an assignment of a term too, takes three letters. */
    private static final int MAX_CONDITIONS = MAX_LETTERS / 3;
    private static final int MAX_CHECKS = 4;
    private static final int MAX_LOOPS = 3;
    private static final int MAX_CHOICES = 3;
    private static final int MAX_GUESSES = 5;
    private static final int GUESS_SETS = 1 << MAX_GUESSES;
    private static final int MAX_ACTS = 14;
    private static final int MAX_SEEN = 6;
    private static final int SLOTS = 2;
    private static final int EMPTY = -1;
    private static final int MAX_LINES = 4;
    private static final int LINE_LIMIT = 10000;
    private static final int MAX_RUNS = 20;

    /** Every round but the last gives a state to a loop that did not have it. */
    private static final int MAX_ROUNDS = MAX_LOOPS * VALUES * VALUES * VALUES + 2;

    private static final int[] FACTORIALS = {1, 1, 2, 6, 24, 120};

    private final char[] text = new char[MAX_LETTERS];
    private int letters;
    private final Reader reader = new Reader();
    private Code code = new Code();
    private Code draft = new Code();
    private final Setup setup = new Setup();
    private final Setup supposed = new Setup();
    private final int[] past = new int[MAX_ACTS];
    private int acts;
    private final int[] slots = new int[SLOTS];
    private final int[] seenCheck = new int[MAX_SEEN];
    private final int[] seenWas = new int[MAX_SEEN];
    private int seen;
    private final int[] lines = new int[MAX_LINES];
    private final States agreeing = new States();
    private final Analysis analysis = new Analysis(code);
    private final Runner runner = new Runner();

    public LoopGuesses() {
        emptySlots();
    }

    // ---- the program

    public int write(int letter) {
        if (letter < 0 || letter > LAST_LETTER) {
            return BAD;
        }
        if (letters < 0 || letters >= text.length) {
            return FULL;
        }
        text[letters] = (char) letter;
        letters++;
        return letters;
    }

    public int wipe() {
        int had = letters;
        letters = 0;
        return had;
    }

    public int fault() {
        return reader.read(text, letters, draft);
    }

    public int program() {
        if (reader.read(text, letters, draft) != NONE) {
            return LATE;
        }
        Code old = code;
        code = draft;
        draft = old;
        code.findTruths();
        setup.reset();
        acts = 0;
        emptySlots();
        analysis.forget(code);
        return code.statements;
    }

    private void emptySlots() {
        for (int i = 0; i < slots.length; i++) {
            slots[i] = EMPTY;
        }
    }

    public int about(int what) {
        switch (what) {
            case 0:
                return code.checks;
            case 1:
                return code.loops;
            case 2:
                return code.choices;
            case 3:
                return code.guesses;
            case 4:
                return setup.off;
            case 5:
                return view(setup).proved(active(setup));
            case 6:
                return code.fulfilled(view(setup).reached());
            case 7:
                return view(setup).invariants(active(setup)).flow.now.count();
            case 8:
                return view(setup).reached().now.count();
            case 9:
                return acts;
            case 10:
                return seen;
            case 11:
                return letters;
            default:
                return BAD;
        }
    }

    public int loop(int loop, int what) {
        if (loop < 0 || loop >= code.loops || loop >= MAX_LOOPS) {
            return UNKNOWN;
        }
        if (what < 0 || what > 3) {
            return BAD;
        }
        if (what == 2) {
            return view(setup).reached().come[loop].count();
        }
        Invariants invariants = view(setup).invariants(active(setup));
        if (what == 0) {
            return invariants.given[loop];
        }
        return what == 1 ? invariants.flow.inside[loop].count() : invariants.flow.come[loop].count();
    }

    public int check(int check, int what) {
        if (check < 0 || check >= code.checks || check >= MAX_CHECKS) {
            return UNKNOWN;
        }
        if (what < 0 || what > 3) {
            return BAD;
        }
        boolean really = what == 1 || what == 3;
        Flow flow = really ? view(setup).reached() : view(setup).invariants(active(setup)).flow;
        States states = flow.atCheck[check];
        return what < 2 ? states.count() : states.smallestOutside(code.checkConditions[check].truths);
    }

    public int start(int variable) {
        if (variable < 0 || variable >= setup.start.length) {
            return UNKNOWN;
        }
        return setup.start[variable];
    }

    // ---- doings

    public int begin(int variable, int v) {
        if (variable < 0 || variable >= setup.start.length) {
            return UNKNOWN;
        }
        if (v < 0 || v > ANY) {
            return BAD;
        }
        int was = setup.start[variable];
        remember();
        setup.start[variable] = v;
        return was;
    }

    public int turn(int guess) {
        if (guess < 0 || guess >= code.guesses) {
            return UNKNOWN;
        }
        remember();
        setup.off ^= 1 << guess;
        return setup.off >> guess & 1;
    }

    /** Keeps the setup as it is ahead of an act, and forgets the oldest one if there are too many. */
    private void remember() {
        if (acts >= past.length) {
            for (int i = 1; i < past.length; i++) {
                past[i - 1] = past[i];
            }
            acts = past.length - 1;
        }
        if (acts >= 0) {
            past[acts] = setup.packed();
            acts++;
        }
    }

    public int undo() {
        if (acts < 1 || acts > past.length) {
            return LATE;
        }
        acts--;
        setup.unpack(past[acts]);
        return acts;
    }

    // ---- guesses

    public int falls(int loop, int guesses) {
        if (loop < 0 || loop >= code.loops) {
            return UNKNOWN;
        }
        int active = active(setup);
        if ((guesses & ~active) != 0) {
            return BAD;
        }
        return view(setup).firstFalse(loop, guesses, active);
    }

    public int fewest(int what) {
        if (what < 0 || what > 1) {
            return BAD;
        }
        int active = active(setup);
        Analysis found = view(setup);
        int goal = Integer.bitCount(found.proved(active));
        int best = active;
        // Upwards, so that the first set of its size is the smallest mask.
        for (int set = 0; set < GUESS_SETS; set++) {
            if ((set & ~active) == 0 && Integer.bitCount(set) < Integer.bitCount(best)
                    && Integer.bitCount(found.proved(set)) == goal) {
                best = set;
            }
        }
        return what == 0 ? Integer.bitCount(best) : best;
    }

    public int judge(int n, long row) {
        if (n < 1 || n > MAX_LINES) {
            return BAD;
        }
        long rest = row;
        for (int i = n - 1; i >= 0 && i < lines.length; i--) {
            lines[i] = (int) (rest % LINE_LIMIT);
            rest /= LINE_LIMIT;
        }
        if (row < 0 || rest != 0) {
            return BAD;
        }
        supposed.unpack(setup.packed());
        for (int i = 0; i < n && i < lines.length; i++) {
            int line = lines[i];
            if (!stands(line / 1000, line / 100 % 10, line / 10 % 10, line % 10)) {
                return i;
            }
        }
        return NONE;
    }

    /** Does an act to the supposed setup, or looks whether a claim is true of it; false if it is a wrong one. */
    private boolean stands(int kind, int first, int second, int last) {
        if (kind == 5) {
            return first < code.loops && first < MAX_LOOPS && second < code.guesses
                    && last == (view(supposed).invariants(active(supposed)).given[first] >> second & 1);
        }
        if (kind == 6) {
            return view(supposed).reached().now.has(first, second, last);
        }
        if (second != 0) {
            return false;
        }
        switch (kind) {
            case 1:
                return supposed.putStart(first, last);
            case 2:
                return first < code.guesses && supposed.putOff(first, last);
            case 3:
                return first < code.checks && last == (view(supposed).proved(active(supposed)) >> first & 1);
            case 4:
                return first < code.checks && last == (code.fulfilled(view(supposed).reached()) >> first & 1);
            default:
                return false;
        }
    }

    public int share(int guess, boolean upper) {
        if (guess < 0 || guess >= code.guesses) {
            return UNKNOWN;
        }
        int active = active(setup);
        int own = 1 << guess;
        if ((active & own) == 0) {
            return LATE;
        }
        Analysis found = view(setup);
        int n = Integer.bitCount(active);
        int sum = 0;
        for (int set = 0; set < GUESS_SETS; set++) {
            if ((set & ~(active & ~own)) == 0) {
                int ahead = Integer.bitCount(set);
                int gain = Integer.bitCount(found.proved(set | own)) - Integer.bitCount(found.proved(set));
                sum += factorial(ahead) * factorial(n - 1 - ahead) * gain;
            }
        }
        return part(sum, factorial(n), upper);
    }

    private static int factorial(int n) {
        return n < 0 || n >= FACTORIALS.length ? 1 : FACTORIALS[n];
    }

    /** A part of the fraction top / bottom in lowest terms; both are small, and bottom is positive. */
    private static int part(int top, int bottom, boolean upper) {
        int divisor = bottom;
        int rest = top;
        for (int i = 0; i < 64 && rest != 0; i++) {
            int next = divisor % rest;
            divisor = rest;
            rest = next;
        }
        if (divisor == 0) {
            return NONE;
        }
        return upper ? top / divisor : bottom / divisor;
    }

    // ---- seen

    public int see(int check, int was) {
        if (check < 0 || check >= code.checks) {
            return UNKNOWN;
        }
        if (was < 0 || was > 1) {
            return BAD;
        }
        if (seen < 0 || seen >= seenCheck.length || seen >= seenWas.length) {
            return FULL;
        }
        seenCheck[seen] = check;
        seenWas[seen] = was;
        seen++;
        return seen;
    }

    public int unsee() {
        int had = seen;
        seen = 0;
        return had;
    }

    public int which(int what) {
        if (what < 0 || what > 1) {
            return BAD;
        }
        findAgreeing();
        return what == 0 ? agreeing.count() : agreeing.smallest();
    }

    private void findAgreeing() {
        setup.fillIn(agreeing);
        for (int i = 0; i < seen && i < seenCheck.length && i < seenWas.length; i++) {
            int check = seenCheck[i];
            if (check < code.checks) {
                States failing = analysis.failing(check);
                if (seenWas[i] == 1) {
                    agreeing.meet(failing);
                } else {
                    agreeing.remove(failing);
                }
            } else if (seenWas[i] == 1) {
                agreeing.clear();
            }
        }
    }

    // ---- chances

    public int lost(int x, boolean upper) {
        if (x < 0 || x > 10) {
            return BAD;
        }
        int active = active(setup);
        Analysis found = view(setup);
        int n = Integer.bitCount(active);
        int all = (1 << code.checks) - 1;
        int sum = 0;
        for (int set = 0; set < GUESS_SETS; set++) {
            if ((set & ~active) == 0 && found.proved(set) == all) {
                int left = Integer.bitCount(set);
                sum += power(10 - x, left) * power(x, n - left);
            }
        }
        return part(sum, power(10, n), upper);
    }

    private static int power(int base, int exponent) {
        int product = 1;
        for (int i = 0; i < exponent; i++) {
            product *= base;
        }
        return product;
    }

    public long seed(long v) {
        long was = runner.seed;
        runner.seed = v;
        return was;
    }

    public int drawn(int m) {
        if (m < 1 || m > MAX_RUNS) {
            return BAD;
        }
        int sum = 0;
        for (int i = 0; i < m; i++) {
            sum += runner.run(code, setup);
        }
        return sum;
    }

    // ---- slots

    public int keep(int slot) {
        if (slot < 0 || slot >= slots.length) {
            return UNKNOWN;
        }
        slots[slot] = setup.packed();
        return Integer.bitCount(setup.off);
    }

    public int again(int slot) {
        if (slot < 0 || slot >= slots.length) {
            return UNKNOWN;
        }
        if (slots[slot] == EMPTY) {
            return LATE;
        }
        setup.unpack(slots[slot]);
        acts = 0;
        return Integer.bitCount(setup.off);
    }

    // ---- within

    private int active(Setup of) {
        return (1 << code.guesses) - 1 & ~of.off;
    }

    /** What is known, or can be found, of the program with this setup. */
    private Analysis view(Setup of) {
        analysis.lookAt(of);
        return analysis;
    }

    /** A set of states: bit 6 * b + c of plane a stands for the state a, b, c. */
    private static final class States {
        private static final long PLANE = (1L << VALUES * VALUES) - 1;
        /** The states of a plane with b = 0, and those with c = 0. */
        private static final long LOW_B = 0x3FL;
        private static final long LOW_C = 0x41041041L;

        private final long[] planes = new long[VALUES];

        static States[] row(int length) {
            States[] row = new States[Math.max(length, 0)];
            for (int i = 0; i < row.length; i++) {
                row[i] = new States();
            }
            return row;
        }

        void clear() {
            for (int a = 0; a < VALUES; a++) {
                planes[a] = 0;
            }
        }

        void fill() {
            for (int a = 0; a < VALUES; a++) {
                planes[a] = PLANE;
            }
        }

        void copy(States other) {
            for (int a = 0; a < VALUES; a++) {
                planes[a] = other.planes[a];
            }
        }

        /** Tells whether it got a state that it did not have. */
        boolean unite(States other) {
            long fresh = 0;
            for (int a = 0; a < VALUES; a++) {
                fresh |= other.planes[a] & ~planes[a];
                planes[a] |= other.planes[a];
            }
            return fresh != 0;
        }

        void meet(States other) {
            for (int a = 0; a < VALUES; a++) {
                planes[a] &= other.planes[a];
            }
        }

        void remove(States other) {
            for (int a = 0; a < VALUES; a++) {
                planes[a] &= ~other.planes[a];
            }
        }

        /** Adds the states that the other set does not have. */
        void addMissing(States other) {
            for (int a = 0; a < VALUES; a++) {
                planes[a] |= PLANE & ~other.planes[a];
            }
        }

        int count() {
            int sum = 0;
            for (int a = 0; a < VALUES; a++) {
                sum += Long.bitCount(planes[a]);
            }
            return sum;
        }

        int smallest() {
            for (int a = 0; a < VALUES; a++) {
                if (planes[a] != 0) {
                    return number(a, planes[a]);
                }
            }
            return NONE;
        }

        int smallestOutside(States other) {
            for (int a = 0; a < VALUES; a++) {
                long rest = planes[a] & ~other.planes[a];
                if (rest != 0) {
                    return number(a, rest);
                }
            }
            return NONE;
        }

        private static int number(int a, long plane) {
            int bit = Long.numberOfTrailingZeros(plane);
            return 100 * a + 10 * (bit / VALUES) + bit % VALUES;
        }

        boolean isWithin(States other) {
            long outside = 0;
            for (int a = 0; a < VALUES; a++) {
                outside |= planes[a] & ~other.planes[a];
            }
            return outside == 0;
        }

        private static boolean isState(int a, int b, int c) {
            return a >= 0 && a < VALUES && b >= 0 && b < VALUES && c >= 0 && c < VALUES;
        }

        boolean has(int a, int b, int c) {
            return isState(a, b, c) && (planes[a] >>> VALUES * b + c & 1) == 1;
        }

        void add(int a, int b, int c) {
            if (isState(a, b, c)) {
                planes[a] |= 1L << VALUES * b + c;
            }
        }

        /** Leaves the states in which the variable has the value. */
        void meetValue(int variable, int value) {
            long line = variable == 1 ? LOW_B << VALUES * value : LOW_C << value;
            for (int a = 0; a < VALUES; a++) {
                if (variable != 0) {
                    planes[a] &= line;
                } else if (a != value) {
                    planes[a] = 0;
                }
            }
        }

        /** Adds to each state those that differ from it in the variable alone. */
        void free(int variable) {
            if (variable == 0) {
                long any = 0;
                for (int a = 0; a < VALUES; a++) {
                    any |= planes[a];
                }
                for (int a = 0; a < VALUES; a++) {
                    planes[a] = any;
                }
                return;
            }
            int stride = variable == 1 ? VALUES : 1;
            long low = variable == 1 ? LOW_B : LOW_C;
            // The states with c = 0 are a stride of b apart, and those with b = 0 a stride of c.
            long spread = variable == 1 ? LOW_C : LOW_B;
            for (int a = 0; a < VALUES; a++) {
                long any = 0;
                for (int value = 0; value < VALUES; value++) {
                    any |= planes[a] >>> value * stride & low;
                }
                planes[a] = any * spread;
            }
        }

        /**
         * Moves all states by one value of the variable, up or down; those that leave the range
         * are lost, but the states at the end 5 (or 0) stay there besides.
         */
        void shift(int variable, boolean up, boolean stayAt5) {
            if (variable == 0) {
                int end = stayAt5 ? VALUES - 1 : 0;
                long stay = planes[end];
                for (int i = 1; i < VALUES; i++) {
                    int to = up ? VALUES - i : i - 1;
                    planes[to] = planes[up ? to - 1 : to + 1];
                }
                planes[up ? 0 : VALUES - 1] = 0;
                planes[end] |= stay;
                return;
            }
            int stride = variable == 1 ? VALUES : 1;
            long bottom = variable == 1 ? LOW_B : LOW_C;
            long top = bottom << (VALUES - 1) * stride;
            for (int a = 0; a < VALUES; a++) {
                long moved = up ? (planes[a] & ~top) << stride : (planes[a] & ~bottom) >>> stride;
                planes[a] = moved | planes[a] & (stayAt5 ? top : bottom);
            }
        }
    }

    /** A condition, with the set of the states in which it is true. */
    private static final class Condition {
        private int variable;
        private int sign;
        private int term;
        private final States truths = new States();

        void put(int newVariable, int newSign, int newTerm) {
            variable = newVariable;
            sign = newSign;
            term = newTerm;
        }

        boolean isTrue(int a, int b, int c) {
            int left = pick(variable, a, b, c);
            int right = value(a, b, c);
            switch (sign) {
                case '<':
                    return left < right;
                case '>':
                    return left > right;
                case '=':
                    return left == right;
                default:
                    return left != right;
            }
        }

        /** The value of the term. */
        int value(int a, int b, int c) {
            return term < FIRST_NAME ? term : pick(term - FIRST_NAME, a, b, c);
        }

        private static int pick(int variable, int a, int b, int c) {
            if (variable == 0) {
                return a;
            }
            return variable == 1 ? b : c;
        }

        void findTruths() {
            truths.clear();
            for (int a = 0; a < VALUES; a++) {
                for (int b = 0; b < VALUES; b++) {
                    for (int c = 0; c < VALUES; c++) {
                        if (isTrue(a, b, c)) {
                            truths.add(a, b, c);
                        }
                    }
                }
            }
        }
    }

    /** A place of a program: a simple statement, or a bracket or bar of a loop or a choice. */
    private static final class Step {
        private static final int SET = 0;
        private static final int UP = 1;
        private static final int DOWN = 2;
        private static final int FREE = 3;
        private static final int ASSUME = 4;
        private static final int CHECK = 5;
        private static final int LOOP = 6;
        private static final int LOOP_END = 7;
        private static final int CHOICE = 8;
        private static final int CHOICE_BAR = 9;
        private static final int CHOICE_END = 10;

        private int kind;
        private int variable;
        /** Which check, loop or choice it is. */
        private int number;
        /** Where a loop's other end is, a choice's bar, or the bar's end. */
        private int partner;
        /** Never null; of an assignment v=t it is the condition v=t, which is true behind it. */
        private Condition condition;

        Step(Condition anyCondition) {
            condition = anyCondition;
        }

        boolean isStatement() {
            return kind != LOOP_END && kind != CHOICE_BAR && kind != CHOICE_END;
        }
    }

    /** A program that has been read: its places in the order of the text, and its guesses. */
    private static final class Code {
        private final Step[] steps = new Step[MAX_LETTERS];
        private int length;
        private final Condition[] conditions = new Condition[MAX_CONDITIONS];
        private int used;
        private final Condition[] guessConditions = new Condition[MAX_GUESSES];
        private final Condition[] checkConditions = new Condition[MAX_CHECKS];
        private int guesses;
        private int checks;
        private int loops;
        private int choices;
        private int statements;

        Code() {
            for (int i = 0; i < conditions.length; i++) {
                conditions[i] = new Condition();
            }
            for (int i = 0; i < steps.length; i++) {
                steps[i] = new Step(conditions[0]);
            }
            for (int i = 0; i < guessConditions.length; i++) {
                guessConditions[i] = conditions[0];
            }
            for (int i = 0; i < checkConditions.length; i++) {
                checkConditions[i] = conditions[0];
            }
        }

        void clear() {
            length = 0;
            used = 0;
            guesses = 0;
            checks = 0;
            loops = 0;
            choices = 0;
            statements = 0;
        }

        /** The step at a place; the first one for a place that is not in the program. */
        Step at(int place) {
            return steps[place < 0 || place >= steps.length ? 0 : place];
        }

        /** A new place at the end; a text has no more places than letters. */
        Step append(int kind) {
            Step step = at(length);
            length = Math.min(length + 1, steps.length);
            step.kind = kind;
            step.condition = conditions[0];
            if (step.isStatement()) {
                statements++;
            }
            return step;
        }

        Condition newCondition(int variable, int sign, int term) {
            Condition condition = conditions[used < 0 || used >= conditions.length ? 0 : used];
            used++;
            condition.put(variable, sign, term);
            return condition;
        }

        void appendCheck(Condition condition) {
            Step step = append(Step.CHECK);
            step.condition = condition;
            step.number = checks;
            if (checks >= 0 && checks < checkConditions.length) {
                checkConditions[checks] = condition;
            }
            checks++;
        }

        void appendGuess(Condition condition) {
            if (guesses >= 0 && guesses < guessConditions.length) {
                guessConditions[guesses] = condition;
            }
            guesses++;
        }

        /** Apart from the reading, because a text that is only looked at does not need it. */
        void findTruths() {
            for (int i = 0; i < used && i < conditions.length; i++) {
                conditions[i].findTruths();
            }
        }

        /** The set of the checks whose condition is true in all states that come to them. */
        int fulfilled(Flow flow) {
            int set = 0;
            for (int i = 0; i < checks && i < checkConditions.length && i < flow.atCheck.length; i++) {
                if (flow.atCheck[i].isWithin(checkConditions[i].truths)) {
                    set |= 1 << i;
                }
            }
            return set;
        }
    }

    /** Reads a text letter by letter; what may come next depends on few things only. */
    private static final class Reader {
        private static final int STATEMENT = 0;
        private static final int OPERATION = 1;
        private static final int NEW_VALUE = 2;
        private static final int LEFT = 3;
        private static final int SIGN = 4;
        private static final int RIGHT = 5;
        private static final int SEMICOLON = 6;

        /** What a condition is for, if not for one of the kinds of steps. */
        private static final int GUESS = -1;

        private int expected;
        private int owner;
        private int variable;
        private int sign;
        /** The places of the brackets (or the bar) that are still open. */
        private final int[] open = new int[MAX_LOOPS + MAX_CHOICES];
        private int depth;

        /** Reads the text into the code; returns its fault or NONE. */
        int read(char[] text, int length, Code code) {
            code.clear();
            expected = STATEMENT;
            depth = 0;
            for (int i = 0; i < length && i < text.length; i++) {
                if (!take(text[i], code)) {
                    return i;
                }
            }
            boolean whole = depth == 0 && (expected == STATEMENT || expected == SEMICOLON);
            return whole ? NONE : length;
        }

        private boolean take(char letter, Code code) {
            switch (expected) {
                case STATEMENT:
                    return takeStatement(letter, code);
                case OPERATION:
                    return takeOperation(letter, code);
                case LEFT:
                    return takeLeft(letter);
                case SIGN:
                    return takeSign(letter);
                case NEW_VALUE:
                    return takeNewValue(term(letter), code);
                case RIGHT:
                    return takeRight(term(letter), code);
                default:
                    return letter == ';' && beginGuess(code);
            }
        }

        private static boolean isName(char letter) {
            return letter >= 'a' && letter <= 'c';
        }

        /** The number of a term, or -1. */
        private static int term(char letter) {
            if (isName(letter)) {
                return FIRST_NAME + letter - 'a';
            }
            return letter >= '0' && letter <= '5' ? letter - '0' : -1;
        }

        private boolean takeStatement(char letter, Code code) {
            if (isName(letter)) {
                variable = letter - 'a';
                expected = OPERATION;
                return true;
            }
            switch (letter) {
                case '@':
                    return expectCondition(Step.ASSUME);
                case '!':
                    return code.checks < MAX_CHECKS && expectCondition(Step.CHECK);
                case '(':
                    return code.loops < MAX_LOOPS && expectCondition(Step.LOOP);
                case ')':
                    return closeLoop(code);
                case '{':
                    return code.choices < MAX_CHOICES && openChoice(code);
                case '|':
                    return passBar(Step.CHOICE, Step.CHOICE_BAR, code);
                case '}':
                    return passBar(Step.CHOICE_BAR, Step.CHOICE_END, code);
                case ';':
                    return depth == 0 && beginGuess(code);
                default:
                    return false;
            }
        }

        private boolean beginGuess(Code code) {
            return code.guesses < MAX_GUESSES && expectCondition(GUESS);
        }

        private boolean expectCondition(int newOwner) {
            owner = newOwner;
            expected = LEFT;
            return true;
        }

        private boolean takeOperation(char letter, Code code) {
            switch (letter) {
                case '=':
                    expected = NEW_VALUE;
                    return true;
                case '+':
                    return appendChange(Step.UP, code);
                case '-':
                    return appendChange(Step.DOWN, code);
                case '?':
                    return appendChange(Step.FREE, code);
                default:
                    return false;
            }
        }

        private boolean appendChange(int kind, Code code) {
            code.append(kind).variable = variable;
            expected = STATEMENT;
            return true;
        }

        private boolean takeNewValue(int term, Code code) {
            if (term < 0) {
                return false;
            }
            // v=v changes nothing, as an assumption that is always true; so nothing else has to think of it.
            boolean same = term == FIRST_NAME + variable;
            Step step = code.append(same ? Step.ASSUME : Step.SET);
            step.variable = variable;
            step.condition = code.newCondition(variable, '=', term);
            expected = STATEMENT;
            return true;
        }

        private boolean takeLeft(char letter) {
            if (!isName(letter)) {
                return false;
            }
            variable = letter - 'a';
            expected = SIGN;
            return true;
        }

        private boolean takeSign(char letter) {
            if (letter != '<' && letter != '=' && letter != '>' && letter != '#') {
                return false;
            }
            sign = letter;
            expected = RIGHT;
            return true;
        }

        private boolean takeRight(int term, Code code) {
            if (term < 0) {
                return false;
            }
            Condition condition = code.newCondition(variable, sign, term);
            expected = STATEMENT;
            switch (owner) {
                case Step.ASSUME:
                    code.append(Step.ASSUME).condition = condition;
                    break;
                case Step.CHECK:
                    code.appendCheck(condition);
                    break;
                case Step.LOOP:
                    openLoop(condition, code);
                    break;
                default:
                    code.appendGuess(condition);
                    expected = SEMICOLON;
                    break;
            }
            return true;
        }

        private void openLoop(Condition condition, Code code) {
            push(code.length);
            Step step = code.append(Step.LOOP);
            step.condition = condition;
            step.number = code.loops;
            code.loops++;
        }

        private boolean openChoice(Code code) {
            push(code.length);
            code.append(Step.CHOICE).number = code.choices;
            code.choices++;
            return true;
        }

        private void push(int place) {
            if (depth >= 0 && depth < open.length) {
                open[depth] = place;
                depth++;
            }
        }

        /** The place of the innermost bracket that is open, if it is of this kind, or else -1. */
        private int innermost(int kind, Code code) {
            if (depth < 1 || depth > open.length) {
                return -1;
            }
            int place = open[depth - 1];
            return code.at(place).kind == kind ? place : -1;
        }

        private boolean closeLoop(Code code) {
            int place = innermost(Step.LOOP, code);
            if (place < 0) {
                return false;
            }
            depth--;
            Step first = code.at(place);
            first.partner = code.length;
            Step last = code.append(Step.LOOP_END);
            last.condition = first.condition;
            last.number = first.number;
            last.partner = place;
            return true;
        }

        /** Goes from the bracket of a choice to its bar, or from its bar to its end. */
        private boolean passBar(int from, int to, Code code) {
            int place = innermost(from, code);
            if (place < 0) {
                return false;
            }
            depth--;
            if (to == Step.CHOICE_BAR) {
                push(code.length);
            }
            Step first = code.at(place);
            first.partner = code.length;
            code.append(to).number = first.number;
            return true;
        }
    }

    /** The sets of states that come to the places of a program. */
    private static final class Flow {
        /** At the present place; behind a pass this is the end of the program. */
        private final States now = new States();
        private final States[] come = States.row(MAX_LOOPS);
        private final States[] inside = States.row(MAX_LOOPS);
        private final States[] atCheck = States.row(MAX_CHECKS);
        private final States[] atChoice = States.row(MAX_CHOICES);
        private final States[] atBar = States.row(MAX_CHOICES);

        /** Puts into each loop the states in which its guesses are true. */
        void assign(Code code, int[] given) {
            for (int i = 0; i < MAX_LOOPS && i < given.length; i++) {
                come[i].clear();
                inside[i].fill();
                for (int guess = 0; guess < MAX_GUESSES; guess++) {
                    if ((given[i] >> guess & 1) == 1) {
                        inside[i].meet(code.guessConditions[guess].truths);
                    }
                }
            }
        }

        /** Finds the reached states: what is in a loop is what came to it, until nothing new comes. */
        void reach(Code code, States begin) {
            for (int i = 0; i < MAX_LOOPS; i++) {
                come[i].clear();
            }
            boolean grown = true;
            for (int round = 0; round < MAX_ROUNDS && grown; round++) {
                grown = pass(code, begin, come);
            }
        }

        /** Goes once through the program; tells whether new states came to a loop. */
        boolean pass(Code code, States begin, States[] inLoops) {
            boolean grown = false;
            now.copy(begin);
            for (int i = 0; i < code.length; i++) {
                Step step = code.at(i);
                if (step.kind == Step.LOOP || step.kind == Step.LOOP_END) {
                    grown |= passLoop(step, inLoops);
                } else if (step.kind >= Step.CHOICE) {
                    passChoice(step);
                } else {
                    passSimple(step);
                }
            }
            return grown;
        }

        private void passSimple(Step step) {
            switch (step.kind) {
                case Step.SET:
                    now.free(step.variable);
                    now.meet(step.condition.truths);
                    break;
                case Step.UP:
                    now.shift(step.variable, true, true);
                    break;
                case Step.DOWN:
                    now.shift(step.variable, false, false);
                    break;
                case Step.FREE:
                    now.free(step.variable);
                    break;
                case Step.CHECK:
                    if (step.number >= 0 && step.number < atCheck.length) {
                        atCheck[step.number].copy(now);
                    }
                    now.meet(step.condition.truths);
                    break;
                default:
                    now.meet(step.condition.truths);
                    break;
            }
        }

        private boolean passLoop(Step step, States[] inLoops) {
            int n = step.number;
            if (n < 0 || n >= come.length || n >= inLoops.length) {
                return false;
            }
            boolean grown = come[n].unite(now);
            now.copy(inLoops[n]);
            if (step.kind == Step.LOOP) {
                now.meet(step.condition.truths);
            } else {
                now.remove(step.condition.truths);
            }
            return grown;
        }

        private void passChoice(Step step) {
            int n = step.number;
            if (n < 0 || n >= atChoice.length || n >= atBar.length) {
                return;
            }
            if (step.kind == Step.CHOICE) {
                atChoice[n].copy(now);
            } else if (step.kind == Step.CHOICE_BAR) {
                atBar[n].copy(now);
                now.copy(atChoice[n]);
            } else {
                now.unite(atBar[n]);
            }
        }
    }

    /** The greatest sets of guesses for the loops that hold, and what comes to the places by them. */
    private static final class Invariants {
        private static final int ROUNDS = MAX_LOOPS * MAX_GUESSES + 1;

        private final Flow flow = new Flow();
        private final int[] given = new int[MAX_LOOPS];

        /** Begins with all active guesses everywhere and gives up those that are false, round by round. */
        void find(Code code, States begin, int active) {
            for (int i = 0; i < given.length; i++) {
                given[i] = active;
            }
            boolean fewer = true;
            for (int round = 0; round < ROUNDS && fewer; round++) {
                flow.assign(code, given);
                flow.pass(code, begin, flow.inside);
                fewer = false;
                for (int loop = 0; loop < code.loops && loop < given.length; loop++) {
                    int wrong = falseGuesses(code, loop);
                    given[loop] &= ~wrong;
                    fewer |= wrong != 0;
                }
            }
        }

        /** The given guesses of a loop that are not true in all states that come to it. */
        int falseGuesses(Code code, int loop) {
            int set = 0;
            if (loop < 0 || loop >= given.length || loop >= flow.come.length) {
                return set;
            }
            for (int guess = 0; guess < MAX_GUESSES; guess++) {
                if ((given[loop] >> guess & 1) == 1
                        && !flow.come[loop].isWithin(code.guessConditions[guess].truths)) {
                    set |= 1 << guess;
                }
            }
            return set;
        }
    }

    /** Finds the start states from which a check can fail, by going through the program backwards. */
    private static final class Blame {
        /** At the present place: the states from which the check can still fail. */
        private final States now = new States();
        private final States[] atLoop = States.row(MAX_LOOPS);
        private final States[] behindLoop = States.row(MAX_LOOPS);
        private final States[] behindChoice = States.row(MAX_CHOICES);
        private final States[] atBar = States.row(MAX_CHOICES);

        void find(Code code, int check, States result) {
            for (int i = 0; i < MAX_LOOPS; i++) {
                atLoop[i].clear();
            }
            boolean grown = true;
            for (int round = 0; round < MAX_ROUNDS && grown; round++) {
                grown = pass(code, check);
            }
            result.copy(now);
        }

        private boolean pass(Code code, int check) {
            boolean grown = false;
            now.clear();
            for (int i = code.length - 1; i >= 0; i--) {
                Step step = code.at(i);
                if (step.kind == Step.LOOP || step.kind == Step.LOOP_END) {
                    grown |= passLoop(step);
                } else if (step.kind >= Step.CHOICE) {
                    passChoice(step);
                } else {
                    passSimple(step, check);
                }
            }
            return grown;
        }

        private void passSimple(Step step, int check) {
            switch (step.kind) {
                case Step.SET:
                    now.meet(step.condition.truths);
                    now.free(step.variable);
                    break;
                case Step.UP:
                    now.shift(step.variable, false, true);
                    break;
                case Step.DOWN:
                    now.shift(step.variable, true, false);
                    break;
                case Step.FREE:
                    now.free(step.variable);
                    break;
                default:
                    if (step.kind == Step.CHECK && step.number == check) {
                        now.addMissing(step.condition.truths);
                    } else {
                        now.meet(step.condition.truths);
                    }
                    break;
            }
        }

        private boolean passLoop(Step step) {
            int n = step.number;
            if (n < 0 || n >= atLoop.length || n >= behindLoop.length) {
                return false;
            }
            if (step.kind == Step.LOOP_END) {
                behindLoop[n].copy(now);
                now.copy(atLoop[n]);
                return false;
            }
            now.meet(step.condition.truths);
            behindLoop[n].remove(step.condition.truths);
            now.unite(behindLoop[n]);
            return atLoop[n].unite(now);
        }

        private void passChoice(Step step) {
            int n = step.number;
            if (n < 0 || n >= behindChoice.length || n >= atBar.length) {
                return;
            }
            if (step.kind == Step.CHOICE_END) {
                behindChoice[n].copy(now);
            } else if (step.kind == Step.CHOICE_BAR) {
                atBar[n].copy(now);
                now.copy(behindChoice[n]);
            } else {
                now.unite(atBar[n]);
            }
        }
    }

    /** The start, and which guesses are switched off. */
    private static final class Setup {
        private static final int STARTS = ANY + 1;

        private final int[] start = new int[VARIABLES];
        private int off;

        Setup() {
            reset();
        }

        void reset() {
            for (int i = 0; i < start.length; i++) {
                start[i] = ANY;
            }
            off = 0;
        }

        int packedStart() {
            int packed = 0;
            for (int i = 0; i < start.length; i++) {
                packed = packed * STARTS + start[i];
            }
            return packed;
        }

        /** All of it as one number, 0 or more. */
        int packed() {
            return packedStart() * GUESS_SETS + off;
        }

        void unpack(int packed) {
            off = packed % GUESS_SETS;
            int rest = packed / GUESS_SETS;
            for (int i = start.length - 1; i >= 0; i--) {
                start[i] = rest % STARTS;
                rest /= STARTS;
            }
        }

        boolean putStart(int variable, int value) {
            if (variable < 0 || variable >= start.length || value < 0 || value > ANY) {
                return false;
            }
            start[variable] = value;
            return true;
        }

        boolean putOff(int guess, int isOff) {
            if (isOff < 0 || isOff > 1) {
                return false;
            }
            off = off & ~(1 << guess) | isOff << guess;
            return true;
        }

        /** Makes it the set of the states that agree with the start. */
        void fillIn(States states) {
            states.fill();
            for (int i = 0; i < start.length; i++) {
                if (start[i] < VALUES) {
                    states.meetValue(i, start[i]);
                }
            }
        }
    }

    /** Runs a program with random choices. */
    private static final class Runner {
        private static final long FACTOR = 6364136223846793005L;
        private static final long SUMMAND = 1442695040888963407L;
        private static final int MAX_STEPS = 60;
        /** A step, and the brackets behind it that are no steps, as many as there may be. */
        private static final int MAX_MOVES = (MAX_STEPS + 1) * (MAX_LETTERS + 1);

        private static final int ENDED = 0;
        private static final int CHECK_FAILED = 1;
        private static final int ASSUMPTION_FALSE = 2;
        private static final int TOO_LONG = 3;

        private long seed;
        private final int[] values = new int[VARIABLES];

        private int draw(int below) {
            seed = seed * FACTOR + SUMMAND;
            return below < 1 ? 0 : (int) ((seed >>> 33) % below);
        }

        /** Returns how the run ends. */
        int run(Code code, Setup setup) {
            for (int i = 0; i < values.length && i < setup.start.length; i++) {
                values[i] = setup.start[i] == ANY ? draw(VALUES) : setup.start[i];
            }
            int place = 0;
            int done = 0;
            for (int move = 0; move < MAX_MOVES && place < code.length; move++) {
                Step step = code.at(place);
                if (step.isStatement()) {
                    if (done >= MAX_STEPS) {
                        return TOO_LONG;
                    }
                    done++;
                }
                if (step.kind == Step.CHECK && !isTrue(step)) {
                    return CHECK_FAILED;
                }
                if (step.kind == Step.ASSUME && !isTrue(step)) {
                    return ASSUMPTION_FALSE;
                }
                change(step);
                place = next(step, place);
            }
            return ENDED;
        }

        private boolean isTrue(Step step) {
            return step.condition.isTrue(values[0], values[1], values[2]);
        }

        private void change(Step step) {
            int v = step.variable;
            if (v < 0 || v >= values.length) {
                return;
            }
            switch (step.kind) {
                case Step.SET:
                    values[v] = step.condition.value(values[0], values[1], values[2]);
                    break;
                case Step.UP:
                    values[v] = Math.min(values[v] + 1, VALUES - 1);
                    break;
                case Step.DOWN:
                    values[v] = Math.max(values[v] - 1, 0);
                    break;
                case Step.FREE:
                    values[v] = draw(VALUES);
                    break;
                default:
                    break;
            }
        }

        private int next(Step step, int place) {
            switch (step.kind) {
                case Step.LOOP:
                    return isTrue(step) ? place + 1 : step.partner + 1;
                case Step.LOOP_END:
                case Step.CHOICE_BAR:
                    return step.partner;
                case Step.CHOICE:
                    return draw(2) == 0 ? place + 1 : step.partner + 1;
                default:
                    return place + 1;
            }
        }
    }

    /** What has been found out about a program and a start, each thing when it is first asked for. */
    private static final class Analysis {
        private static final int NOT_YET = -1;

        private Code code;
        private int lookedAt;
        private final States begin = new States();
        private final Flow reached = new Flow();
        private boolean reachedFound;
        private final Invariants present = new Invariants();
        private int presentFor;
        private final Invariants trial = new Invariants();
        private final int[] provedBy = new int[GUESS_SETS];
        private final Blame blame = new Blame();
        private final States[] failing = States.row(MAX_CHECKS);
        private int failingFound;

        Analysis(Code firstCode) {
            forget(firstCode);
        }

        void forget(Code newCode) {
            code = newCode;
            lookedAt = NOT_YET;
            failingFound = 0;
        }

        void lookAt(Setup setup) {
            int packed = setup.packedStart();
            if (lookedAt == packed) {
                return;
            }
            lookedAt = packed;
            setup.fillIn(begin);
            reachedFound = false;
            presentFor = NOT_YET;
            for (int i = 0; i < provedBy.length; i++) {
                provedBy[i] = NOT_YET;
            }
        }

        Flow reached() {
            if (!reachedFound) {
                reached.reach(code, begin);
                reachedFound = true;
            }
            return reached;
        }

        Invariants invariants(int active) {
            if (presentFor != active) {
                present.find(code, begin, active);
                presentFor = active;
            }
            return present;
        }

        /** The set of the checks that are proved if these guesses are the active ones. */
        int proved(int active) {
            if (active < 0 || active >= provedBy.length) {
                return 0;
            }
            if (provedBy[active] == NOT_YET) {
                trial.find(code, begin, active);
                provedBy[active] = code.fulfilled(trial.flow);
            }
            return provedBy[active];
        }

        /** The smallest of the guesses that is false somewhere if they are given to this loop, or NONE. */
        int firstFalse(int loop, int guesses, int active) {
            int[] others = invariants(active).given;
            for (int i = 0; i < trial.given.length && i < others.length; i++) {
                trial.given[i] = i == loop ? guesses : others[i];
            }
            trial.flow.assign(code, trial.given);
            trial.flow.pass(code, begin, trial.flow.inside);
            int wrong = trial.falseGuesses(code, loop);
            return wrong == 0 ? NONE : Integer.numberOfTrailingZeros(wrong);
        }

        /** The states that make the check fail if they alone are the start; this does not depend on the setup. */
        States failing(int check) {
            int place = check < 0 || check >= failing.length ? 0 : check;
            if ((failingFound >> place & 1) == 0) {
                blame.find(code, place, failing[place]);
                failingFound |= 1 << place;
            }
            return failing[place];
        }
    }
}
