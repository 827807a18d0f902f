import java.util.Random;

/** Runs of calls, told by a seed, against the slow program: each answer, and at the end all that can be asked. */
public final class RandomRunsTest {
    private static final int RUNS = 600;
    // What is asked at the end takes up to 217 calls for one machine, and some for the word.
    private static final int CALLS = 260;
    private static final String[] BYTES = {"abc", "abcdefgh", "(()|*+?.", "[^-]ab", "i)]\0\u00ff"};
    private static final String[] TEXTS = {
        "(a|b)*abb", "a*b?c+", "[a-c]*[^b]", ".*a.", "(ab|b)+a?", "(a|(b|c)*)?d", "a|bb|ccc"};

    private final Random random;
    private final WordMachines x = new WordMachines();
    private final NaiveMachines naive = new NaiveMachines();
    private final String run;
    private int calls = 0;

    private RandomRunsTest(int seed) {
        random = new Random(seed);
        run = "run " + seed + " ";
    }

    public static void main(String[] args) {
        for (int seed = 0; seed < RUNS; seed++) {
            RandomRunsTest test = new RandomRunsTest(seed);
            while (test.calls < CALLS) {
                test.oneCall();
            }
            test.compareAll(seed % 8);
        }
        Check.end();
    }

    private interface Answer {
        long get();
    }

    private void compare(String call, Answer got, Answer want) {
        calls++;
        Check.due(run + call, answerOf(got), answerOf(want));
    }

    private static String answerOf(Answer answer) {
        long[] box = new long[1];
        int thrown = Check.thrownBy(() -> box[0] = answer.get());
        return thrown + " " + box[0];
    }

    private static long bit(boolean is) {
        return is ? 1 : 0;
    }

    private int near(int most) {
        return random.nextInt(40) == 0 ? (random.nextBoolean() ? -1 : most) : random.nextInt(most);
    }

    private int machine() {
        return near(8);
    }

    private int state(int k) {
        return near(k < 0 || k > 7 ? 24 : naive.machines[k].count);
    }

    private void oneCall() {
        int kind = random.nextInt(100);
        if (kind < 20) {
            textCall(kind);
        } else if (kind < 60) {
            tellCall(kind);
        } else if (kind < 70) {
            makeCall(kind);
        } else {
            askCall(kind);
        }
    }

    private void textCall(int kind) {
        int k = machine();
        if (kind < 5) {
            feedText(TEXTS[random.nextInt(TEXTS.length)]);
            compare("read " + naive.text, () -> x.read(k), () -> naive.read(k));
        } else if (kind < 9) {
            compare("wipe", x::wipe, naive::wipe);
        } else if (kind < 16) {
            int n = near(9);
            String bytes = BYTES[random.nextInt(BYTES.length)];
            StringBuilder piece = new StringBuilder();
            for (int t = 0; t < 8; t++) {
                piece.append(bytes.charAt(random.nextInt(bytes.length())));
            }
            long packed = Ask.packed(piece.toString());
            compare("feed", () -> x.feed(n, packed), () -> naive.feed(n, packed));
        } else {
            compare("read " + naive.text, () -> x.read(k), () -> naive.read(k));
        }
        compare("fault", x::fault, () -> naive.fault);
        compare("place", x::place, () -> naive.place);
    }

    private void feedText(String text) {
        compare("wipe", x::wipe, naive::wipe);
        for (int at = 0; at < text.length(); at += 8) {
            String piece = text.substring(at, Math.min(text.length(), at + 8));
            long packed = Ask.packed(piece);
            compare("feed", () -> x.feed(piece.length(), packed), () -> naive.feed(piece.length(), packed));
        }
    }

    private void tellCall(int kind) {
        int k = machine();
        if (kind < 22) {
            int n = random.nextInt(3) == 0 ? near(26) : 1 + random.nextInt(6);
            compare("blank " + k + " " + n, () -> {
                x.blank(k, n);
                return 0;
            }, () -> {
                naive.blank(k, n);
                return 0;
            });
        } else if (kind < 32) {
            int state = state(k);
            int what = near(4);
            compare("mark " + k + " " + state + " " + what, () -> {
                x.mark(k, state, what);
                return 0;
            }, () -> {
                naive.mark(k, state, what);
                return 0;
            });
        } else {
            int from = state(k);
            int to = state(k);
            int letter = random.nextInt(4) == 0 ? near(8) : random.nextInt(3);
            boolean is = random.nextInt(4) != 0;
            compare("arc " + k + " " + from + " " + letter + " " + to + " " + is,
                    () -> bit(x.arc(k, from, letter, to, is)), () -> bit(naive.arc(k, from, letter, to, is)));
        }
    }

    private void makeCall(int kind) {
        int k = machine();
        int i = machine();
        int j = machine();
        if (kind < 64) {
            compare("turn " + k + " " + i, () -> {
                x.turn(k, i);
                return 0;
            }, () -> {
                naive.turn(k, i);
                return 0;
            });
        } else if (kind < 67) {
            compare("either " + k + " " + i + " " + j, () -> x.either(k, i, j), () -> naive.either(k, i, j));
        } else {
            compare("both " + k + " " + i + " " + j, () -> x.both(k, i, j), () -> naive.both(k, i, j));
        }
    }

    private void askCall(int kind) {
        int k = machine();
        int j = machine();
        if (kind < 74) {
            int state = state(k);
            int letter = near(9);
            compare("arcs " + k + " " + state + " " + letter,
                    () -> x.arcs(k, state, letter), () -> naive.arcs(k, state, letter));
        } else if (kind < 77) {
            compare("takes " + k + " " + naive.text, () -> bit(x.takes(k)), () -> bit(naive.takes(k)));
        } else if (kind < 83) {
            compare("within " + k + " " + j, () -> bit(x.within(k, j)), () -> bit(naive.within(k, j)));
            compareWord();
        } else if (kind < 88) {
            int length = near(21);
            compare("words " + k + " " + length, () -> x.words(k, length), () -> naive.words(k, length));
        } else if (kind < 92) {
            compare("sets " + k, () -> x.sets(k), () -> naive.sets(k));
        } else if (kind < 97) {
            compare("rests " + k, () -> x.rests(k), () -> naive.rests(k));
        } else {
            compare("states " + k, () -> x.states(k), () -> naive.states(k));
        }
    }

    private void compareWord() {
        compare("length", x::length, naive::length);
        for (int t = -1; t <= naive.length(); t++) {
            int at = t;
            compare("letter " + t, () -> x.letter(at), () -> naive.letter(at));
        }
    }

    private void compareAll(int k) {
        compare("states at the end", () -> x.states(k), () -> naive.states(k));
        for (int s = 0; s < naive.states(k); s++) {
            for (int l = 0; l <= 8; l++) {
                int state = s;
                int letter = l;
                compare("arcs at the end", () -> x.arcs(k, state, letter), () -> naive.arcs(k, state, letter));
            }
        }
        compareWord();
        compare("fault at the end", x::fault, () -> naive.fault);
        compare("place at the end", x::place, () -> naive.place);
        compare("wipe at the end", x::wipe, naive::wipe);
        Check.due(run + "calls in all are few", calls <= 512, true);
    }
}
