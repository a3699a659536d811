import java.util.Random;

/** Makes random texts: programs, and texts that are nearly programs. */
final class Texts {
    private static final String LETTERS = "abc012345<=>#+-?@!(){}|;6d ";

    private final Random random;
    private final StringBuilder text = new StringBuilder();
    private int loops = 0;
    private int choices = 0;
    private int checks = 0;

    Texts(Random random) {
        this.random = random;
    }

    private int below(int k) {
        return random.nextInt(k);
    }

    /** A program of at most 60 letters. */
    String program() {
        String found = "";
        do {
            text.setLength(0);
            loops = 0;
            choices = 0;
            checks = 0;
            statements(3 + below(5), 0);
            int guesses = below(6);
            for (int i = 0; i < guesses; i++) {
                text.append(';');
                condition();
            }
            found = text.toString();
        } while (found.length() > 60);
        return found;
    }

    /** A program with some letters changed, left out or put in, or cut off. */
    String nearly() {
        StringBuilder t = new StringBuilder(program());
        int changes = below(3);
        for (int i = 0; i < changes && t.length() > 0; i++) {
            int at = below(t.length());
            char letter = below(20) == 0 ? (char) below(256) : LETTERS.charAt(below(LETTERS.length()));
            switch (below(4)) {
                case 0:
                    t.setCharAt(at, letter);
                    break;
                case 1:
                    t.deleteCharAt(at);
                    break;
                case 2:
                    t.insert(at, letter);
                    break;
                default:
                    t.setLength(at);
                    break;
            }
        }
        t.setLength(Math.min(t.length(), 60));
        return t.toString();
    }

    private char variable() {
        return (char) ('a' + below(3));
    }

    private char term() {
        return below(3) == 0 ? variable() : (char) ('0' + below(6));
    }

    private void condition() {
        text.append(variable()).append("<=>#".charAt(below(4))).append(term());
    }

    private void statements(int number, int depth) {
        for (int i = 0; i < number; i++) {
            statement(depth);
        }
    }

    private void statement(int depth) {
        int kind = below(14);
        if (kind < 3 && loops < 3 && depth < 4) {
            loops++;
            text.append('(');
            condition();
            statements(below(4), depth + 1);
            text.append(')');
        } else if (kind == 3 && choices < 3 && depth < 4) {
            choices++;
            text.append('{');
            statements(below(3), depth + 1);
            text.append('|');
            statements(below(3), depth + 1);
            text.append('}');
        } else if (kind < 7 && checks < 4) {
            checks++;
            text.append('!');
            condition();
        } else if (kind == 7 && below(2) == 0) {
            text.append('@');
            condition();
        } else if (kind < 10) {
            text.append(variable()).append('=').append(term());
        } else {
            text.append(variable()).append("++-?".charAt(below(4)));
        }
    }
}
