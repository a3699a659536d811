import java.util.Random;

/** What each statement does to each state: forwards (6, 7, 8), backwards (19) and in a run (22). */
public final class StatementsTest {
    private static final String TERMS = "012345abc";

    public static void main(String[] args) {
        for (int variable = 0; variable < 3; variable++) {
            char name = (char) ('a' + variable);
            eachState(name + "+", variable);
            eachState(name + "-", variable);
            eachState(name + "?", variable);
            for (int i = 0; i < TERMS.length(); i++) {
                eachState(name + "=" + TERMS.charAt(i), variable);
            }
        }
        conditions();
        backwardsFromTwoChecks();
        randomBackwards();
        Testing.end();
    }

    private static int digit(int state, int variable) {
        return state / new int[] {100, 10, 1}[variable] % 10;
    }

    private static int with(int state, int variable, int value) {
        return state + (value - digit(state, variable)) * new int[] {100, 10, 1}[variable];
    }

    /** The state behind the statement, or one of them (with the value 0) if there are six. */
    private static int behind(String statement, int variable, int state) {
        int was = digit(state, variable);
        char last = statement.charAt(statement.length() - 1);
        switch (last) {
            case '+':
                return with(state, variable, Math.min(was + 1, 5));
            case '-':
                return with(state, variable, Math.max(was - 1, 0));
            case '?':
                return with(state, variable, 0);
            default:
                return with(state, variable, last >= 'a' ? digit(state, last - 'a') : last - '0');
        }
    }

    private static void eachState(String statement, int variable) {
        LoopGuesses x = Testing.withProgram(statement);
        int number = statement.endsWith("?") ? 6 : 1;
        for (int state = 0; state <= 555; state++) {
            if (state / 10 % 10 > 5 || state % 10 > 5) {
                continue;
            }
            String from = statement + " from " + state;
            // Not so many acts that the object is used up.
            if (state % 100 == 0) {
                x = Testing.withProgram(statement);
            }
            for (int v = 0; v < 3; v++) {
                x.begin(v, digit(state, v));
            }
            Testing.due("about(7) of " + from, x.about(7), number);
            Testing.due("about(8) of " + from, x.about(8), number);
            int goal = behind(statement, variable, state);
            Testing.due("judge of " + from, x.judge(1, 6000 + goal), LoopGuesses.NONE);
            if (number == 1) {
                run(statement, state, goal);
            } else {
                Testing.due("judge of 5 of " + from, x.judge(1, 6000 + with(goal, variable, 5)), LoopGuesses.NONE);
            }
        }
        for (int v = 0; v < 3; v++) {
            backwards(statement, variable, v);
        }
    }

    private static void run(String statement, int state, int goal) {
        StringBuilder text = new StringBuilder(statement);
        for (int v = 0; v < 3; v++) {
            text.append('!').append((char) ('a' + v)).append('=').append(digit(goal, v));
        }
        LoopGuesses x = Testing.withProgram(text.toString());
        for (int v = 0; v < 3; v++) {
            x.begin(v, digit(state, v));
        }
        Testing.due("a run of " + text + " from " + state, x.drawn(1), 0);
        Testing.due("checks of " + text + " from " + state, x.about(6), 7);
    }

    /** From which states does a check behind the statement fail? */
    private static void backwards(String statement, int variable, int checked) {
        for (int value = 0; value < 6; value++) {
            String text = statement + "!" + (char) ('a' + checked) + "#" + value;
            LoopGuesses x = Testing.withProgram(text);
            int number = 0;
            int smallest = LoopGuesses.NONE;
            for (int state = 555; state >= 0; state--) {
                if (state / 10 % 10 > 5 || state % 10 > 5) {
                    continue;
                }
                boolean free = statement.endsWith("?") && variable == checked;
                if (free || digit(behind(statement, variable, state), checked) == value) {
                    number++;
                    smallest = state;
                }
            }
            x.see(0, 1);
            Testing.due("which(0) of " + text, x.which(0), number);
            Testing.due("which(1) of " + text, x.which(1), smallest);
            x.unsee();
            x.see(0, 0);
            Testing.due("which(0) of " + text + ", not seen", x.which(0), 216 - number);
        }
    }

    /** Each condition, as an assumption: how many states pass, and a run from each of them. */
    private static void conditions() {
        for (char name = 'a'; name <= 'c'; name++) {
            for (char sign : "<=>#".toCharArray()) {
                for (char term : TERMS.toCharArray()) {
                    condition(name, sign, term);
                }
            }
        }
    }

    private static void condition(char name, char sign, char term) {
        String text = "@" + name + sign + term;
        LoopGuesses x = Testing.withProgram(text);
        int number = 0;
        for (int i = 0; i < 216; i++) {
            int state = 100 * (i / 36) + 10 * (i / 6 % 6) + i % 6;
            int right = term >= 'a' ? digit(state, term - 'a') : term - '0';
            int order = Integer.compare(digit(state, name - 'a'), right);
            boolean pass = sign == '#' ? order != 0 : order == "<=>".indexOf(sign) - 1;
            number += pass ? 1 : 0;
            if (i % 36 == 0) {
                x = Testing.withProgram(text);
            }
            for (int v = 0; v < 3; v++) {
                x.begin(v, digit(state, v));
            }
            Testing.due("a run of " + text + " from " + state, x.drawn(1), pass ? 0 : 2);
        }
        LoopGuesses all = Testing.withProgram(text);
        Testing.due("about(7) of " + text, all.about(7), number);
        Testing.due("about(8) of " + text, all.about(8), number);
    }

    /** What was found for one check is not left over for the next one, nor for the next program. */
    private static void backwardsFromTwoChecks() {
        LoopGuesses x = Testing.withProgram("(a<3a+{b=b|b=b})!b=0!c=c");
        x.see(0, 1);
        Testing.due("the first check can fail", x.which(0), 180);
        x.unsee();
        x.see(1, 1);
        Testing.due("the second check cannot fail", x.which(0), 0);
        x.wipe();
        Testing.writeAll(x, "{a=1|{b=2|c=3}}(a<3a+)!a=a!b=2");
        x.program();
        Testing.due("another program", x.which(0), 180);
        Testing.due("its smallest", x.which(1), 0);
    }

    private static void randomBackwards() {
        Texts texts = new Texts(new Random(4));
        for (int object = 0; object < 60; object++) {
            LoopGuesses x = new LoopGuesses();
            Model model = new Model();
            for (int i = 0; i < 5; i++) {
                String text = texts.program();
                x.wipe();
                model.wipe();
                for (char letter : text.toCharArray()) {
                    x.write(letter);
                    model.write(letter);
                }
                x.program();
                model.program();
                for (int check = model.about(0) - 1; check >= 0; check--) {
                    x.unsee();
                    model.unsee();
                    x.see(check, 1);
                    model.see(check, 1);
                    Testing.due("which(0) of check " + check + " of " + text, x.which(0), model.which(0));
                    Testing.due("which(1) of check " + check + " of " + text, x.which(1), model.which(1));
                }
            }
        }
    }
}
