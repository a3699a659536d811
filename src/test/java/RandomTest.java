import java.util.Random;

/** Random calls on the class and on the model, which must answer the same. */
public final class RandomTest {
    private static final int OBJECTS = 60;
    private static final int CALLS = 500;

    private final Random random;
    private final LoopGuesses x = new LoopGuesses();
    private final Model model = new Model();
    private final StringBuilder history = new StringBuilder();
    private int calls = 0;
    private boolean wrong = false;

    private RandomTest(long seed) {
        random = new Random(seed);
    }

    public static void main(String[] args) {
        long first = args.length > 0 ? Long.parseLong(args[0]) : 1;
        int objects = args.length > 1 ? Integer.parseInt(args[1]) : OBJECTS;
        for (int i = 0; i < objects; i++) {
            new RandomTest(first + i).run();
        }
        Testing.end();
    }

    private void same(String call, long got, long want) {
        calls++;
        history.append(call).append(" = ").append(got).append("; ");
        Testing.due(call, got, want);
        if (got != want) {
            wrong = true;
            System.out.println("in: " + history);
        }
    }

    private void run() {
        while (calls < CALLS && !wrong) {
            if (random.nextInt(40) == 0 || calls == 0) {
                writeProgram();
            }
            oneCall();
        }
    }

    private int below(int k) {
        return random.nextInt(k);
    }

    /** Mostly from 0 to k - 1, and sometimes outside. */
    private int about(int k) {
        int kind = below(20);
        if (kind == 0) {
            return -1 - below(3);
        }
        if (kind == 1) {
            return k + below(3);
        }
        if (kind == 2 && below(5) == 0) {
            return random.nextInt();
        }
        return below(Math.max(k, 1));
    }

    private void writeProgram() {
        same("wipe()", x.wipe(), model.wipe());
        String text = textToTry();
        for (int i = 0; i < text.length(); i++) {
            same("write(" + (int) text.charAt(i) + ")", x.write(text.charAt(i)), model.write(text.charAt(i)));
        }
        same("fault()", x.fault(), model.fault());
        same("program()", x.program(), model.program());
        for (int what = 0; what < 4; what++) {
            same("about(" + what + ")", x.about(what), model.about(what));
        }
    }

    /** Often a program in which guesses prove something: a random one seldom is of this kind. */
    private String textToTry() {
        Texts texts = new Texts(random);
        if (below(6) == 0) {
            return texts.nearly();
        }
        int tries = below(3) == 0 ? 1 : 200;
        String text = texts.program();
        for (int i = 1; i < tries && Testing.withProgram(text).fewest(0) < 1; i++) {
            text = texts.program();
        }
        return text;
    }

    private void oneCall() {
        switch (below(8)) {
            case 0:
                change();
                break;
            case 1:
                ofText();
                break;
            case 2:
            case 3:
                ofPlaces();
                break;
            case 4:
            case 5:
                ofGuesses();
                break;
            case 6:
                ofSeen();
                break;
            default:
                ofChance();
                break;
        }
    }

    private void change() {
        switch (below(5)) {
            case 0:
                int v = about(3);
                int value = about(7);
                same("begin(" + v + ", " + value + ")", x.begin(v, value), model.begin(v, value));
                break;
            case 1:
                int g = about(model.about(3));
                same("turn(" + g + ")", x.turn(g), model.turn(g));
                break;
            case 2:
                same("undo()", x.undo(), model.undo());
                break;
            case 3:
                int kept = about(2);
                same("keep(" + kept + ")", x.keep(kept), model.keep(kept));
                break;
            default:
                int slot = about(2);
                same("again(" + slot + ")", x.again(slot), model.again(slot));
                break;
        }
    }

    private void ofText() {
        int kind = below(12);
        if (kind == 0) {
            int letter = about(256);
            same("write(" + letter + ")", x.write(letter), model.write(letter));
        } else if (kind == 1) {
            same("program()", x.program(), model.program());
        } else if (kind < 6) {
            same("fault()", x.fault(), model.fault());
        } else {
            int variable = about(3);
            same("start(" + variable + ")", x.start(variable), model.start(variable));
        }
    }

    private void ofPlaces() {
        int kind = below(3);
        if (kind == 0) {
            int what = about(12);
            same("about(" + what + ")", x.about(what), model.about(what));
        } else if (kind == 1) {
            int loop = about(model.about(1));
            int what = about(4);
            same("loop(" + loop + ", " + what + ")", x.loop(loop, what), model.loop(loop, what));
        } else {
            int check = about(model.about(0));
            int what = about(4);
            same("check(" + check + ", " + what + ")", x.check(check, what), model.check(check, what));
        }
    }

    private void ofGuesses() {
        int kind = below(5);
        if (kind == 0) {
            int what = about(2);
            same("fewest(" + what + ")", x.fewest(what), model.fewest(what));
        } else if (kind == 1) {
            int guess = about(model.about(3));
            boolean upper = random.nextBoolean();
            same("share(" + guess + ", " + upper + ")", x.share(guess, upper), model.share(guess, upper));
        } else if (kind == 2) {
            int loop = about(model.about(1));
            int active = (1 << model.about(3)) - 1 & ~model.about(4);
            int guesses = below(5) == 0 ? about(40) : below(32) & active;
            same("falls(" + loop + ", " + guesses + ")", x.falls(loop, guesses), model.falls(loop, guesses));
        } else {
            int n = 1 + below(4) + (below(20) == 0 ? below(10) - 5 : 0);
            long row = row(n);
            same("judge(" + n + ", " + row + ")", x.judge(n, row), model.judge(n, row));
        }
    }

    private long row(int n) {
        if (below(20) == 0) {
            return random.nextLong() >> below(64);
        }
        long row = 0;
        for (int i = 0; i < n; i++) {
            row = row * 10000 + line();
        }
        return row;
    }

    private int line() {
        int kind = 1 + below(6);
        int yes = below(2);
        int first = below(12) == 0 ? below(10) : below(3);
        switch (kind) {
            case 1:
                return 1000 + 100 * first + (below(20) == 0 ? below(100) : below(7));
            case 2:
                return 2000 + 100 * Math.min(9, Math.abs(about(model.about(3)) % 10)) + yes;
            case 3:
            case 4:
                int c = Math.min(9, Math.abs(about(model.about(0)) % 10));
                int truth = model.about(kind + 2) >> Math.min(c, 20) & 1;
                return 1000 * kind + 100 * c + (below(4) == 0 ? below(30) : truth);
            case 5:
                int l = Math.min(9, Math.abs(about(model.about(1)) % 10));
                int g = Math.min(9, Math.abs(about(model.about(3)) % 10));
                int given = model.loop(l, 0) < 0 ? 0 : model.loop(l, 0) >> g & 1;
                return 5000 + 100 * l + 10 * g + (below(4) == 0 ? below(10) : given);
            default:
                return 6000 + 100 * below(6) + 10 * below(6) + below(6) + (below(20) == 0 ? below(300) : 0);
        }
    }

    private void ofSeen() {
        int kind = below(10);
        if (kind < 3) {
            int check = about(model.about(0));
            int was = about(2);
            same("see(" + check + ", " + was + ")", x.see(check, was), model.see(check, was));
        } else if (kind == 3) {
            same("unsee()", x.unsee(), model.unsee());
        } else {
            int what = about(2);
            same("which(" + what + ")", x.which(what), model.which(what));
        }
    }

    private void ofChance() {
        int kind = below(4);
        if (kind == 0) {
            int chance = about(11);
            boolean upper = random.nextBoolean();
            same("lost(" + chance + ", " + upper + ")", x.lost(chance, upper), model.lost(chance, upper));
        } else if (kind == 1) {
            long v = random.nextLong();
            same("seed(" + v + ")", x.seed(v), model.seed(v));
        } else {
            int m = about(21);
            same("drawn(" + m + ")", x.drawn(m), model.drawn(m));
        }
    }
}
