import java.util.Random;

/** Machines with arcs by chance, all questions that go over sets, against the slow program. */
public final class RandomMachinesTest {
    private static final int MACHINES = 3000;

    public static void main(String[] args) {
        for (int seed = 0; seed < MACHINES; seed++) {
            compareOne(new Random(seed), "seed " + seed + " ");
        }
        Check.end();
    }

    private static void compareOne(Random random, String seed) {
        WordMachines x = new WordMachines();
        NaiveMachines naive = new NaiveMachines();
        int letters = 1 + random.nextInt(3);
        tell(random, x, naive, 0, 1 + random.nextInt(9), letters);
        tell(random, x, naive, 1, 1 + random.nextInt(7), letters);
        tell(random, x, naive, 2, 12 + random.nextInt(5), letters);
        for (int i = 0; i < 3; i++) {
            for (int j = 0; j < 2; j++) {
                Check.due(seed + i + " within " + j, x.within(i, j), naive.within(i, j));
                Check.due(seed + i + " word " + j, Ask.keptWord(x), naive.kept == null ? "none" : "word " + naive.kept);
            }
        }
        for (int k = 0; k < 2; k++) {
            Check.due(seed + "sets", x.sets(k), naive.sets(k));
            Check.due(seed + "rests", x.rests(k), naive.rests(k));
            int length = random.nextInt(21);
            Check.due(seed + "words " + length, x.words(k, length), naive.words(k, length));
        }
    }

    private static void tell(Random random, WordMachines x, NaiveMachines naive, int k, int n, int letters) {
        x.blank(k, n);
        naive.blank(k, n);
        for (int state = 0; state < n; state++) {
            int what = (random.nextInt(n) < 2 ? 1 : 0) | (random.nextInt(3) == 0 ? 2 : 0);
            x.mark(k, state, what);
            naive.mark(k, state, what);
        }
        int arcs = (int) (n * letters * (0.7 + 0.8 * random.nextDouble()));
        for (int t = 0; t < arcs; t++) {
            int from = random.nextInt(n);
            int letter = random.nextInt(letters);
            int to = random.nextInt(n);
            x.arc(k, from, letter, to, true);
            naive.arc(k, from, letter, to, true);
        }
    }
}
