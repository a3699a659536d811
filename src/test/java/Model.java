import java.math.BigInteger;
import java.util.ArrayDeque;
import java.util.ArrayList;
import java.util.Arrays;
import java.util.Collections;
import java.util.Deque;
import java.util.List;
import java.util.Set;
import java.util.TreeSet;

/**
 * The document said again in the plainest way, for comparison: trees instead of rows of steps, sets of numbers
 * instead of bits, all assignments tried instead of Houdini's way, all orders instead of sums over sets.
 */
final class Model {
    private static final int UNKNOWN = -1, BAD = -2, LATE = -3, FULL = -4, NONE = -9;

    private StringBuilder buffer = new StringBuilder();
    private Program program = new Program("");
    private int[] start = {6, 6, 6};
    private Set<Integer> off = new TreeSet<>();
    private final Deque<Object[]> past = new ArrayDeque<>();
    private final List<int[]> seen = new ArrayList<>();
    private long seed = 0;
    private final Object[][] slots = new Object[2][];

    // ---- programs

    private static final class NoProgram extends RuntimeException {
        private static final long serialVersionUID = 1;

        NoProgram() {
            super(null, null, false, false);
        }
    }

    private static final class Condition {
        int variable;
        char sign;
        char term;

        boolean holds(int state) {
            int left = digit(state, variable);
            int right = term >= 'a' ? digit(state, term - 'a') : term - '0';
            return sign == '<' ? left < right : sign == '>' ? left > right : sign == '=' ? left == right : left != right;
        }
    }

    private static final class Statement {
        char kind;
        int number;
        int variable;
        char term;
        Condition condition;
        List<Statement> first;
        List<Statement> second;
    }

    /** A recogniser by descent that knows only whole programs. */
    private static final class Program {
        final String text;
        int at = 0;
        int statements = 0;
        int choices = 0;
        final List<Condition> checks = new ArrayList<>();
        final List<Condition> loops = new ArrayList<>();
        final List<Condition> guesses = new ArrayList<>();
        final List<Statement> body;

        Program(String text) {
            this.text = text;
            body = sequence();
            while (at < text.length()) {
                want(";");
                guesses.add(condition());
            }
            if (checks.size() > 4 || loops.size() > 3 || choices > 3 || guesses.size() > 5) {
                throw new NoProgram();
            }
        }

        char want(String signs) {
            if (at >= text.length() || signs.indexOf(text.charAt(at)) < 0) {
                throw new NoProgram();
            }
            return text.charAt(at++);
        }

        Condition condition() {
            Condition c = new Condition();
            c.variable = want("abc") - 'a';
            c.sign = want("<=>#");
            c.term = want("abc012345");
            return c;
        }

        List<Statement> sequence() {
            List<Statement> list = new ArrayList<>();
            while (at < text.length() && ";)|}".indexOf(text.charAt(at)) < 0) {
                list.add(statement());
            }
            return list;
        }

        Statement statement() {
            statements++;
            Statement s = new Statement();
            s.kind = want("abc@!({");
            if (s.kind == '@') {
                s.condition = condition();
            } else if (s.kind == '!') {
                s.number = checks.size();
                s.condition = condition();
                checks.add(s.condition);
            } else if (s.kind == '(') {
                s.number = loops.size();
                s.condition = condition();
                loops.add(s.condition);
                s.first = sequence();
                want(")");
            } else if (s.kind == '{') {
                choices++;
                s.first = sequence();
                want("|");
                s.second = sequence();
                want("}");
            } else {
                s.variable = s.kind - 'a';
                s.kind = want("=+-?");
                if (s.kind == '=') {
                    s.term = want("abc012345");
                }
            }
            return s;
        }
    }

    private static boolean isProgram(String text) {
        try {
            new Program(text);
            return true;
        } catch (NoProgram e) {
            return false;
        }
    }

    /** Whether the text can be completed: first the statement or condition, then the brackets, in every way. */
    private static boolean canBegin(String text) {
        for (String end : new String[] {"", "+", "0", "=0", "a=0"}) {
            if (canClose(text + end, 6)) {
                return true;
            }
        }
        return false;
    }

    private static boolean canClose(String text, int most) {
        if (isProgram(text)) {
            return true;
        }
        return most > 0
                && (canClose(text + ")", most - 1) || canClose(text + "}", most - 1) || canClose(text + "|}", most - 1));
    }

    static int faultOf(String text) {
        if (isProgram(text)) {
            return NONE;
        }
        // What cannot begin a program cannot do so with more behind it, so the first one can be looked for by halves.
        int good = 0;
        int bad = text.length() + 1;
        while (bad - good > 1) {
            int middle = (good + bad) / 2;
            if (canBegin(text.substring(0, middle))) {
                good = middle;
            } else {
                bad = middle;
            }
        }
        return good;
    }

    // ---- states

    private static int digit(int state, int variable) {
        return variable == 0 ? state / 100 : variable == 1 ? state / 10 % 10 : state % 10;
    }

    private static int with(int state, int variable, int value) {
        int unit = variable == 0 ? 100 : variable == 1 ? 10 : 1;
        return state + unit * (value - digit(state, variable));
    }

    private static Set<Integer> allStates() {
        Set<Integer> all = new TreeSet<>();
        for (int n = 0; n <= 555; n++) {
            if (n / 100 < 6 && n / 10 % 10 < 6 && n % 10 < 6) {
                all.add(n);
            }
        }
        return all;
    }

    private static Set<Integer> startStates(int[] start) {
        Set<Integer> found = new TreeSet<>();
        for (int n : allStates()) {
            boolean agrees = true;
            for (int v = 0; v < 3; v++) {
                agrees &= start[v] == 6 || start[v] == digit(n, v);
            }
            if (agrees) {
                found.add(n);
            }
        }
        return found;
    }

    private static Set<Integer> changed(Statement s, int state) {
        int v = s.variable;
        int was = digit(state, v);
        Set<Integer> found = new TreeSet<>();
        if (s.kind == '=') {
            found.add(with(state, v, s.term >= 'a' ? digit(state, s.term - 'a') : s.term - '0'));
        } else if (s.kind == '+') {
            found.add(with(state, v, was == 5 ? 5 : was + 1));
        } else if (s.kind == '-') {
            found.add(with(state, v, was == 0 ? 0 : was - 1));
        } else {
            for (int k = 0; k < 6; k++) {
                found.add(with(state, v, k));
            }
        }
        return found;
    }

    /** What comes where, by an assignment (or really, if there is none). */
    private static final class Places {
        final List<Set<Integer>> atLoop = new ArrayList<>();
        final List<Set<Integer>> inLoop = new ArrayList<>();
        final List<Set<Integer>> atCheck = new ArrayList<>();
        Set<Integer> end;

        Places(Program p) {
            for (int i = 0; i < 4; i++) {
                atLoop.add(new TreeSet<>());
                inLoop.add(new TreeSet<>());
                atCheck.add(new TreeSet<>());
            }
        }
    }

    private static Set<Integer> pass(Program p, List<Statement> list, Set<Integer> in, int[] given, Places places) {
        Set<Integer> now = in;
        for (Statement s : list) {
            Set<Integer> next = new TreeSet<>();
            if (s.kind == '{') {
                next.addAll(pass(p, s.first, now, given, places));
                next.addAll(pass(p, s.second, now, given, places));
            } else if (s.kind == '(') {
                Set<Integer> come = places.atLoop.get(s.number);
                come.addAll(now);
                Set<Integer> inside = new TreeSet<>();
                for (int n : allStates()) {
                    if (allTrue(p, given[s.number], n)) {
                        inside.add(n);
                    }
                }
                places.inLoop.get(s.number).addAll(inside);
                Set<Integer> going = new TreeSet<>();
                for (int n : inside) {
                    (s.condition.holds(n) ? going : next).add(n);
                }
                come.addAll(pass(p, s.first, going, given, places));
            } else {
                for (int n : now) {
                    if (s.kind == '!') {
                        places.atCheck.get(s.number).add(n);
                    }
                    if (s.kind != '!' && s.kind != '@') {
                        next.addAll(changed(s, n));
                    } else if (s.condition.holds(n)) {
                        next.add(n);
                    }
                }
            }
            now = next;
        }
        return now;
    }

    private static boolean allTrue(Program p, int guesses, int state) {
        for (int g = 0; g < p.guesses.size(); g++) {
            if ((guesses >> g & 1) == 1 && !p.guesses.get(g).holds(state)) {
                return false;
            }
        }
        return true;
    }

    private static Places byGuesses(Program p, int[] start, int[] given) {
        Places places = new Places(p);
        places.end = pass(p, p.body, startStates(start), given, places);
        return places;
    }

    private static boolean holds(Program p, Places places, int[] given) {
        for (int l = 0; l < p.loops.size(); l++) {
            for (int n : places.atLoop.get(l)) {
                if (!allTrue(p, given[l], n)) {
                    return false;
                }
            }
        }
        return true;
    }

    /** The union of all assignments that hold; if there are too many of them, one guess after the other is given up. */
    private static int[] invariants(Program p, int[] start, int active) {
        int bits = p.loops.size() * Integer.bitCount(active);
        return bits <= 6 ? unionOfAll(p, start, active) : givenUp(p, start, active);
    }

    private static int[] unionOfAll(Program p, int[] start, int active) {
        int[] best = {0, 0, 0};
        int loops = p.loops.size();
        int size = 1 << p.guesses.size();
        int all = 1;
        for (int l = 0; l < loops; l++) {
            all *= size;
        }
        for (int code = 0; code < all; code++) {
            int[] given = {code % size, code / size % size, code / size / size};
            if (((given[0] | given[1] | given[2]) & ~active) != 0) {
                continue;
            }
            if (holds(p, byGuesses(p, start, given), given)) {
                for (int l = 0; l < 3; l++) {
                    best[l] |= given[l];
                }
            }
        }
        return best;
    }

    private static int[] givenUp(Program p, int[] start, int active) {
        int[] given = {0, 0, 0};
        for (int l = 0; l < p.loops.size(); l++) {
            given[l] = active;
        }
        boolean again = true;
        while (again) {
            again = false;
            Places places = byGuesses(p, start, given);
            for (int l = 2; l >= 0 && !again; l--) {
                for (int g = 0; g < 5 && !again; g++) {
                    if ((given[l] >> g & 1) == 0) {
                        continue;
                    }
                    for (int n : places.atLoop.get(l)) {
                        again |= !p.guesses.get(g).holds(n);
                    }
                    if (again) {
                        given[l] &= ~(1 << g);
                    }
                }
            }
        }
        return given;
    }

    private static Places reached(Program p, Set<Integer> from) {
        Places places = new Places(p);
        places.end = new TreeSet<>();
        for (int n : from) {
            places.end.addAll(runAll(p.body, 0, n, places));
        }
        return places;
    }

    /** All states in which the rest of the list, begun in this state, can end. */
    private static Set<Integer> runAll(List<Statement> list, int at, int state, Places places) {
        Set<Integer> now = new TreeSet<>();
        now.add(state);
        for (int i = at; i < list.size(); i++) {
            Set<Integer> next = new TreeSet<>();
            for (int n : now) {
                next.addAll(runOne(list.get(i), n, places));
            }
            now = next;
        }
        return now;
    }

    private static Set<Integer> runOne(Statement s, int state, Places places) {
        Set<Integer> found = new TreeSet<>();
        switch (s.kind) {
            case '{':
                found.addAll(runAll(s.first, 0, state, places));
                found.addAll(runAll(s.second, 0, state, places));
                return found;
            case '(':
                Set<Integer> met = new TreeSet<>();
                Deque<Integer> open = new ArrayDeque<>();
                open.add(state);
                while (!open.isEmpty()) {
                    int n = open.remove();
                    if (!met.add(n)) {
                        continue;
                    }
                    places.atLoop.get(s.number).add(n);
                    if (s.condition.holds(n)) {
                        open.addAll(runAll(s.first, 0, n, places));
                    } else {
                        found.add(n);
                    }
                }
                return found;
            case '!':
                places.atCheck.get(s.number).add(state);
                if (s.condition.holds(state)) {
                    found.add(state);
                }
                return found;
            case '@':
                if (s.condition.holds(state)) {
                    found.add(state);
                }
                return found;
            default:
                return changed(s, state);
        }
    }

    private static Set<Integer> fulfilled(Program p, Places places) {
        Set<Integer> found = new TreeSet<>();
        for (int c = 0; c < p.checks.size(); c++) {
            if (smallestFailing(p, places, c) == NONE) {
                found.add(c);
            }
        }
        return found;
    }

    private static int smallestFailing(Program p, Places places, int check) {
        for (int n : places.atCheck.get(check)) {
            if (!p.checks.get(check).holds(n)) {
                return n;
            }
        }
        return NONE;
    }

    private static Set<Integer> proved(Program p, int[] start, int active) {
        return fulfilled(p, byGuesses(p, start, invariants(p, start, active)));
    }

    private static int mask(Set<Integer> set) {
        int mask = 0;
        for (int k : set) {
            mask |= 1 << k;
        }
        return mask;
    }

    private int active() {
        return activeBut(off);
    }

    private int activeBut(Set<Integer> without) {
        int mask = 0;
        for (int g = 0; g < program.guesses.size(); g++) {
            mask |= without.contains(g) ? 0 : 1 << g;
        }
        return mask;
    }

    // ---- the face

    int write(int letter) {
        if (letter < 0 || letter > 255) {
            return BAD;
        }
        if (buffer.length() == 60) {
            return FULL;
        }
        buffer.append((char) letter);
        return buffer.length();
    }

    int wipe() {
        int had = buffer.length();
        buffer = new StringBuilder();
        return had;
    }

    int fault() {
        return faultOf(buffer.toString());
    }

    int program() {
        if (!isProgram(buffer.toString())) {
            return LATE;
        }
        program = new Program(buffer.toString());
        start = new int[] {6, 6, 6};
        off = new TreeSet<>();
        past.clear();
        slots[0] = null;
        slots[1] = null;
        return program.statements;
    }

    int about(int what) {
        switch (what) {
            case 0:
                return program.checks.size();
            case 1:
                return program.loops.size();
            case 2:
                return program.choices;
            case 3:
                return program.guesses.size();
            case 4:
                return mask(off);
            case 5:
                return mask(proved(program, start, active()));
            case 6:
                return mask(fulfilled(program, reached(program, startStates(start))));
            case 7:
                return byGuesses(program, start, invariants(program, start, active())).end.size();
            case 8:
                return reached(program, startStates(start)).end.size();
            case 9:
                return past.size();
            case 10:
                return seen.size();
            case 11:
                return buffer.length();
            default:
                return BAD;
        }
    }

    int loop(int loop, int what) {
        if (loop < 0 || loop >= program.loops.size()) {
            return UNKNOWN;
        }
        int[] given = invariants(program, start, active());
        switch (what) {
            case 0:
                return given[loop];
            case 1:
                return byGuesses(program, start, given).inLoop.get(loop).isEmpty()
                        ? countTrue(given[loop])
                        : byGuesses(program, start, given).inLoop.get(loop).size();
            case 2:
                return reached(program, startStates(start)).atLoop.get(loop).size();
            case 3:
                return byGuesses(program, start, given).atLoop.get(loop).size();
            default:
                return BAD;
        }
    }

    private int countTrue(int guesses) {
        int sum = 0;
        for (int n : allStates()) {
            sum += allTrue(program, guesses, n) ? 1 : 0;
        }
        return sum;
    }

    int check(int check, int what) {
        if (check < 0 || check >= program.checks.size()) {
            return UNKNOWN;
        }
        if (what < 0 || what > 3) {
            return BAD;
        }
        Places places = what % 2 == 1
                ? reached(program, startStates(start))
                : byGuesses(program, start, invariants(program, start, active()));
        return what < 2 ? places.atCheck.get(check).size() : smallestFailing(program, places, check);
    }

    int start(int variable) {
        return variable < 0 || variable > 2 ? UNKNOWN : start[variable];
    }

    private Object[] snapshot() {
        return new Object[] {start.clone(), new TreeSet<>(off)};
    }

    @SuppressWarnings("unchecked")
    private void restore(Object[] kept) {
        start = ((int[]) kept[0]).clone();
        off = new TreeSet<>((Set<Integer>) kept[1]);
    }

    private void remember() {
        past.addLast(snapshot());
        if (past.size() > 14) {
            past.removeFirst();
        }
    }

    int begin(int variable, int v) {
        if (variable < 0 || variable > 2) {
            return UNKNOWN;
        }
        if (v < 0 || v > 6) {
            return BAD;
        }
        remember();
        int was = start[variable];
        start[variable] = v;
        return was;
    }

    int turn(int guess) {
        if (guess < 0 || guess >= program.guesses.size()) {
            return UNKNOWN;
        }
        remember();
        if (off.remove(guess)) {
            return 0;
        }
        off.add(guess);
        return 1;
    }

    int undo() {
        if (past.isEmpty()) {
            return LATE;
        }
        restore(past.removeLast());
        return past.size();
    }

    int falls(int loop, int guesses) {
        if (loop < 0 || loop >= program.loops.size()) {
            return UNKNOWN;
        }
        for (int bit = 0; bit < 32; bit++) {
            if ((guesses >> bit & 1) == 1 && (bit >= program.guesses.size() || off.contains(bit))) {
                return BAD;
            }
        }
        int[] given = invariants(program, start, active());
        given[loop] = guesses;
        Places places = byGuesses(program, start, given);
        for (int g = 0; g < program.guesses.size(); g++) {
            for (int n : places.atLoop.get(loop)) {
                if ((guesses >> g & 1) == 1 && !program.guesses.get(g).holds(n)) {
                    return g;
                }
            }
        }
        return NONE;
    }

    int fewest(int what) {
        if (what != 0 && what != 1) {
            return BAD;
        }
        int active = active();
        int goal = proved(program, start, active).size();
        for (int size = 0; size <= 5; size++) {
            for (int set = 0; set < 32; set++) {
                if (Integer.bitCount(set) == size && (set & active) == set && proved(program, start, set).size() == goal) {
                    return what == 0 ? size : set;
                }
            }
        }
        return UNKNOWN;
    }

    int judge(int n, long row) {
        if (n < 1 || n > 4 || row < 0 || Long.toString(row).length() > 4 * n) {
            return BAD;
        }
        String digits = Long.toString(row);
        while (digits.length() < 4 * n) {
            digits = "0" + digits;
        }
        int[] s = start.clone();
        Set<Integer> without = new TreeSet<>(off);
        for (int i = 0; i < n; i++) {
            if (!stands(digits.substring(4 * i, 4 * i + 4), s, without)) {
                return i;
            }
        }
        return NONE;
    }

    private boolean stands(String line, int[] s, Set<Integer> without) {
        int q = line.charAt(1) - '0';
        int r = line.charAt(2) - '0';
        boolean yes = line.charAt(3) == '1';
        if (line.matches("1[012]0[0-6]")) {
            s[q] = line.charAt(3) - '0';
            return true;
        }
        if (line.matches("2[0-4]0[01]") && q < program.guesses.size()) {
            if (yes) {
                without.add(q);
            } else {
                without.remove(q);
            }
            return true;
        }
        if (line.matches("3[0-3]0[01]") && q < program.checks.size()) {
            return proved(program, s, activeBut(without)).contains(q) == yes;
        }
        if (line.matches("4[0-3]0[01]") && q < program.checks.size()) {
            return fulfilled(program, reached(program, startStates(s))).contains(q) == yes;
        }
        if (line.matches("5[0-2][0-4][01]") && q < program.loops.size() && r < program.guesses.size()) {
            return (invariants(program, s, activeBut(without))[q] >> r & 1) == (yes ? 1 : 0);
        }
        return line.matches("6[0-5][0-5][0-5]")
                && reached(program, startStates(s)).end.contains(Integer.parseInt(line.substring(1)));
    }

    private static int part(BigInteger top, BigInteger bottom, boolean upper) {
        BigInteger divisor = top.gcd(bottom);
        return (upper ? top : bottom).divide(divisor).intValueExact();
    }

    int share(int guess, boolean upper) {
        if (guess < 0 || guess >= program.guesses.size()) {
            return UNKNOWN;
        }
        if (off.contains(guess)) {
            return LATE;
        }
        List<Integer> rest = new ArrayList<>();
        for (int g = 0; g < program.guesses.size(); g++) {
            if (!off.contains(g)) {
                rest.add(g);
            }
        }
        int[] count = new int[32];
        Arrays.fill(count, -1);
        long[] sums = new long[2];
        allOrders(rest, 0, guess, count, sums);
        return part(BigInteger.valueOf(sums[0]), BigInteger.valueOf(sums[1]), upper);
    }

    private void allOrders(List<Integer> order, int fixed, int guess, int[] count, long[] sums) {
        if (fixed == order.size()) {
            int on = 0;
            for (int g : order) {
                if (g == guess) {
                    sums[0] += provedCount(on | 1 << g, count) - provedCount(on, count);
                }
                on |= 1 << g;
            }
            sums[1]++;
            return;
        }
        for (int i = fixed; i < order.size(); i++) {
            Collections.swap(order, fixed, i);
            allOrders(order, fixed + 1, guess, count, sums);
            Collections.swap(order, fixed, i);
        }
    }

    private int provedCount(int set, int[] count) {
        if (count[set] < 0) {
            count[set] = proved(program, start, set).size();
        }
        return count[set];
    }

    int see(int check, int was) {
        if (check < 0 || check >= program.checks.size()) {
            return UNKNOWN;
        }
        if (was != 0 && was != 1) {
            return BAD;
        }
        if (seen.size() == 6) {
            return FULL;
        }
        seen.add(new int[] {check, was});
        return seen.size();
    }

    int unsee() {
        int had = seen.size();
        seen.clear();
        return had;
    }

    int which(int what) {
        if (what != 0 && what != 1) {
            return BAD;
        }
        int number = 0;
        int smallest = NONE;
        for (int n : startStates(start)) {
            if (agrees(n)) {
                number++;
                smallest = smallest == NONE ? n : smallest;
            }
        }
        return what == 0 ? number : smallest;
    }

    private boolean agrees(int state) {
        Set<Integer> alone = new TreeSet<>();
        alone.add(state);
        Set<Integer> safe = seen.isEmpty() ? alone : fulfilled(program, reached(program, alone));
        for (int[] s : seen) {
            boolean couldFail = s[0] < program.checks.size() && !safe.contains(s[0]);
            if (couldFail != (s[1] == 1)) {
                return false;
            }
        }
        return true;
    }

    int lost(int x, boolean upper) {
        if (x < 0 || x > 10) {
            return BAD;
        }
        BigInteger sum = BigInteger.ZERO;
        int active = active();
        for (int set = 0; set < 32; set++) {
            if ((set & active) == set && proved(program, start, set).size() == program.checks.size()) {
                BigInteger chance = BigInteger.ONE;
                for (int g = 0; g < program.guesses.size(); g++) {
                    if (!off.contains(g)) {
                        chance = chance.multiply(BigInteger.valueOf((set >> g & 1) == 1 ? 10 - x : x));
                    }
                }
                sum = sum.add(chance);
            }
        }
        return part(sum, BigInteger.TEN.pow(Integer.bitCount(active)), upper);
    }

    long seed(long v) {
        long was = seed;
        seed = v;
        return was;
    }

    private static final class Stop extends RuntimeException {
        private static final long serialVersionUID = 1;
        final int with;

        Stop(int with) {
            super(null, null, false, false);
            this.with = with;
        }
    }

    private int drawNumber(int k) {
        seed = seed * 6364136223846793005L + 1442695040888963407L;
        return (int) ((seed >>> 33) % k);
    }

    int drawn(int m) {
        if (m < 1 || m > 20) {
            return BAD;
        }
        int sum = 0;
        for (int i = 0; i < m; i++) {
            int state = 0;
            for (int v = 0; v < 3; v++) {
                state = with(state, v, start[v] == 6 ? drawNumber(6) : start[v]);
            }
            try {
                runRandomly(program.body, new int[] {state, 0});
            } catch (Stop stop) {
                sum += stop.with;
            }
        }
        return sum;
    }

    private static void count(int[] run) {
        if (run[1] == 60) {
            throw new Stop(3);
        }
        run[1]++;
    }

    private void runRandomly(List<Statement> list, int[] run) {
        for (Statement s : list) {
            count(run);
            if (s.kind == '(') {
                while (s.condition.holds(run[0])) {
                    runRandomly(s.first, run);
                    count(run);
                }
            } else if (s.kind == '{') {
                runRandomly(drawNumber(2) == 0 ? s.first : s.second, run);
            } else if (s.kind == '?') {
                run[0] = with(run[0], s.variable, drawNumber(6));
            } else if (s.kind == '!' || s.kind == '@') {
                if (!s.condition.holds(run[0])) {
                    throw new Stop(s.kind == '!' ? 1 : 2);
                }
            } else {
                run[0] = changed(s, run[0]).iterator().next();
            }
        }
    }

    int keep(int slot) {
        if (slot < 0 || slot > 1) {
            return UNKNOWN;
        }
        slots[slot] = snapshot();
        return off.size();
    }

    int again(int slot) {
        if (slot < 0 || slot > 1) {
            return UNKNOWN;
        }
        if (slots[slot] == null) {
            return LATE;
        }
        restore(slots[slot]);
        past.clear();
        return off.size();
    }
}
