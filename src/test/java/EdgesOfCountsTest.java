/** The edges of SETS and RESTS and of promises 19 to 21 (words, sets, rests). */
public final class EdgesOfCountsTest {
    private static final int ALL = (1 << 11) - 1;

    public static void main(String[] args) {
        Check.terms("SETS: with a word a machine comes to the set of all states", EdgesOfCountsTest::emptyWordAndEmptySet);
        Check.terms("RESTS: of a set, the words that arcs lead along from one of its states to an end",
                EdgesOfCountsTest::emptyRestAndFullRest);

        Check.promise(19, "How many words of a length machine k takes", EdgesOfCountsTest::wordsOfLength0);
        Check.promise(19, "How many words of a length machine k takes", EdgesOfCountsTest::wordsOfLength20);
        Check.promise(19, "How many words of a length machine k takes", EdgesOfCountsTest::wordsOfJustThatLength);
        Check.promise(19, "How many words of a length machine k takes", EdgesOfCountsTest::wordsOnManyWaysCountOnce);
        Check.promise(19, "How many words of a length machine k takes", EdgesOfCountsTest::noWords);
        Check.promise(19, "How many words of a length machine k takes", EdgesOfCountsTest::wordsOfEachMachine);
        Check.promise(19, "How many words of a length machine k takes", EdgesOfCountsTest::wordsChangesNothing);
        Check.promise(19, "IndexOutOfBoundsException: there is no machine k", EdgesOfCountsTest::wordsNoMachine);
        Check.promise(19, "IllegalArgumentException: it has more than 11 states", EdgesOfCountsTest::words11And12States);
        Check.promise(19, "or length is not 0 to 20", EdgesOfCountsTest::wordsWrongLength);
        Check.promise(19, "the one named first when several would do", EdgesOfCountsTest::wordsSeveralWrong);

        Check.promise(20, "How many different sets machine k comes to with all words", EdgesOfCountsTest::oneSet);
        Check.promise(20, "How many different sets machine k comes to with all words", EdgesOfCountsTest::allSets);
        Check.promise(20, "How many different sets machine k comes to with all words", EdgesOfCountsTest::differentSets);
        Check.promise(20, "with all words", EdgesOfCountsTest::setsOfEachLetter);
        Check.promise(20, "with all words", EdgesOfCountsTest::setsOfLongWords);
        Check.promise(20, "How many different sets machine k comes to with all words",
                EdgesOfCountsTest::setsChangesNothing);
        Check.promise(20, "IndexOutOfBoundsException: there is no machine k", EdgesOfCountsTest::setsNoMachine);
        Check.promise(20, "IllegalArgumentException: it has more than 11 states", EdgesOfCountsTest::sets11And12States);

        Check.promise(21, "How many different rests these sets have", EdgesOfCountsTest::oneRest);
        Check.promise(21, "How many different rests these sets have", EdgesOfCountsTest::allRests);
        Check.promise(21, "How many different rests these sets have", EdgesOfCountsTest::equalRestsCountOnce);
        Check.promise(21, "these sets", EdgesOfCountsTest::onlyRestsThatAreComeTo);
        Check.promise(21, "How many different rests these sets have", EdgesOfCountsTest::restsThatDifferLate);
        Check.promise(21, "How many different rests these sets have", EdgesOfCountsTest::restsChangesNothing);
        Check.promise(21, "IndexOutOfBoundsException: there is no machine k", EdgesOfCountsTest::restsNoMachine);
        Check.promise(21, "IllegalArgumentException: it has more than 11 states", EdgesOfCountsTest::rests11And12States);
        Check.end();
    }

    private static void dueCounts(WordMachines x, int k, int sets, int rests) {
        Check.due("sets of " + k, x.sets(k), sets);
        Check.due("rests of " + k, x.rests(k), rests);
    }

    private static void dueCounts(String text, int sets, int rests) {
        WordMachines x = new WordMachines();
        Ask.read(x, 5, text);
        Check.due("sets of " + text, x.sets(5), sets);
        Check.due("rests of " + text, x.rests(5), rests);
    }

    /** Arcs from a state to one with all letters. */
    private static void arcsWithAllLetters(WordMachines x, int k, int from, int to) {
        for (int letter = 0; letter < 8; letter++) {
            x.arc(k, from, letter, to, true);
        }
    }

    private static void emptyWordAndEmptySet() {
        WordMachines x = new WordMachines();
        // No start: the empty word comes to the empty set, and all others too.
        dueCounts(x, 0, 1, 1);
        // The empty word comes to state 0 alone, all others to the empty set.
        x.mark(0, 0, 3);
        dueCounts(x, 0, 2, 2);
        // All words come to state 0.
        arcsWithAllLetters(x, 0, 0, 0);
        dueCounts(x, 0, 1, 1);
        // One letter less, and the empty set is come to.
        x.arc(0, 0, 7, 0, false);
        dueCounts(x, 0, 2, 2);
    }

    private static void emptyRestAndFullRest() {
        WordMachines x = new WordMachines();
        x.blank(0, 2);
        x.mark(0, 0, 1);
        arcsWithAllLetters(x, 0, 0, 1);
        arcsWithAllLetters(x, 0, 1, 1);
        // Both sets have no words at all.
        dueCounts(x, 0, 2, 1);
        x.mark(0, 1, 2);
        // All words but the empty one; all words.
        dueCounts(x, 0, 2, 2);
        x.mark(0, 0, 3);
        dueCounts(x, 0, 2, 1);
        // A state that comes to no end has the same rest as the empty set.
        Ask.read(x, 1, "a[^a-h]");
        dueCounts(x, 1, 3, 1);
    }

    private static void wordsOfLength0() {
        WordMachines x = new WordMachines();
        Check.due("no start, no end", x.words(0, 0), 0);
        x.mark(0, 0, 1);
        Check.due("a start", x.words(0, 0), 0);
        x.mark(0, 0, 2);
        Check.due("an end", x.words(0, 0), 0);
        x.mark(0, 0, 3);
        Check.due("both", x.words(0, 0), 1);
        x.blank(0, 11);
        for (int state = 0; state < 11; state++) {
            x.mark(0, state, 3);
        }
        Check.due("eleven of both", x.words(0, 0), 1);
        x.blank(0, 2);
        x.mark(0, 0, 1);
        x.mark(0, 1, 2);
        x.arc(0, 0, 0, 1, true);
        Check.due("a start and another end", x.words(0, 0), 0);
    }

    private static void wordsOfLength20() {
        WordMachines x = new WordMachines();
        Ask.read(x, 0, ".*");
        Check.due("all words of 20", x.words(0, 20), 1L << 60);
        Check.due("all words of 19", x.words(0, 19), 1L << 57);
        Check.due("all words of 1", x.words(0, 1), 8);
        Check.due("all words of 0", x.words(0, 0), 1);
        Ask.read(x, 0, ".*h");
        Check.due("words of 20 that end with h", x.words(0, 20), 1L << 57);
        Ask.read(x, 0, "[a-g]*");
        Check.due("words of 20 without h", x.words(0, 20), 79792266297612001L);
        Ask.read(x, 0, ".*h.*");
        Check.due("words of 20 with h", x.words(0, 20), (1L << 60) - 79792266297612001L);
    }

    private static void wordsOfJustThatLength() {
        WordMachines x = new WordMachines();
        Tell.chain(x, 0, 11, 7);
        for (int length = 0; length <= 20; length++) {
            Check.due("chain of 10, words of " + length, x.words(0, length), length == 10 ? 1 : 0);
        }
        for (int rest = 0; rest < 11; rest++) {
            Tell.ring(x, 1, 11, 0, rest);
            for (int length = 9; length <= 20; length++) {
                Check.due("ring of 11, words of " + length, x.words(1, length), length % 11 == rest ? 1 : 0);
            }
        }
        WordMachines y = new WordMachines();
        Ask.read(y, 0, "a?".repeat(10));
        for (int length = 0; length <= 20; length++) {
            Check.due("up to 10, words of " + length, y.words(0, length), length <= 10 ? 1 : 0);
        }
    }

    private static void wordsOnManyWaysCountOnce() {
        WordMachines x = new WordMachines();
        x.blank(0, 11);
        for (int from = 0; from < 11; from++) {
            x.mark(0, from, 3);
            for (int to = 0; to < 11; to++) {
                x.arc(0, from, 0, to, true);
                x.arc(0, from, 7, to, true);
            }
        }
        for (int length = 0; length <= 20; length++) {
            Check.due("all ways, words of " + length, x.words(0, length), 1L << length);
        }
        Ask.read(x, 1, "a|a|aa?|(a)");
        Check.due("a, four times", x.words(1, 1), 1);
        Check.due("aa, once", x.words(1, 2), 1);
    }

    private static void noWords() {
        for (int length = 0; length <= 20; length++) {
            WordMachines x = new WordMachines();
            Check.due("a new machine, words of " + length, x.words(7, length), 0);
            Ask.read(x, 0, "[^a-h]");
            Check.due("no letter, words of " + length, x.words(0, length), 0);
            Tell.dropper(x, 1, 11, 0);
            Check.due("no end, words of " + length, x.words(1, length), 0);
        }
    }

    private static void wordsOfEachMachine() {
        for (int k = 0; k <= 7; k++) {
            WordMachines x = new WordMachines();
            x.mark(k, 0, 3);
            for (int other = 0; other <= 7; other++) {
                Check.due("words of " + other, x.words(other, 0), other == k ? 1 : 0);
            }
        }
    }

    private static void wordsChangesNothing() {
        Scene scene = new Scene(Tell::rich);
        scene.dueNoChange("words(1, 20)", x -> x.words(1, 20));
        scene.dueNoChange("words(7, 0)", x -> x.words(7, 0));
    }

    private static void wordsNoMachine() {
        Scene scene = new Scene(Tell::rich);
        for (int k : Tell.NO_MACHINES) {
            scene.dueThrow("words(" + k + ", 0)", Check.INDEX, x -> x.words(k, 0));
            scene.dueThrow("words(" + k + ", 20)", Check.INDEX, x -> x.words(k, 20));
        }
    }

    private static void words11And12States() {
        Scene scene = new Scene(Tell::rich);
        for (int length : new int[] {0, 11, 20}) {
            scene.dueThrow("words(2, " + length + ")", Check.ARGUMENT, x -> x.words(2, length));
            scene.dueThrow("words(0, " + length + ")", Check.ARGUMENT, x -> x.words(0, length));
        }
        for (int n = 1; n <= 24; n++) {
            WordMachines x = new WordMachines();
            Tell.chain(x, 0, n, 3);
            int length = n - 1;
            if (n <= 11) {
                Check.due("words of " + n + " states", x.words(0, length), 1);
            } else {
                Check.dueThrow("words of " + n + " states", Check.ARGUMENT, () -> x.words(0, Math.min(length, 20)));
            }
        }
    }

    private static final int[] WRONG_LENGTHS = {-1, 21, 22, -20, 256, 1 << 16, Integer.MIN_VALUE, Integer.MAX_VALUE};

    private static void wordsWrongLength() {
        Scene scene = new Scene(Tell::rich);
        for (int length : WRONG_LENGTHS) {
            scene.dueThrow("words(1, " + length + ")", Check.ARGUMENT, x -> x.words(1, length));
            scene.dueThrow("words(7, " + length + ")", Check.ARGUMENT, x -> x.words(7, length));
        }
    }

    private static void wordsSeveralWrong() {
        WordMachines x = Tell.rich();
        for (int length : WRONG_LENGTHS) {
            Check.dueThrow("words(8, " + length + ")", Check.INDEX, () -> x.words(8, length));
            Check.dueThrow("words(-1, " + length + ")", Check.INDEX, () -> x.words(-1, length));
            Check.dueThrow("words(2, " + length + ")", Check.ARGUMENT, () -> x.words(2, length));
        }
    }

    private static void oneSet() {
        WordMachines x = new WordMachines();
        for (int k = 0; k <= 7; k++) {
            Check.due("sets when new", x.sets(k), 1);
        }
        x.blank(0, 11);
        x.arc(0, 0, 0, 1, true);
        x.mark(0, 1, 2);
        Check.due("sets of eleven states without a start", x.sets(0), 1);
        x.blank(1, 1);
        x.mark(1, 0, 1);
        arcsWithAllLetters(x, 1, 0, 0);
        Check.due("sets of one state with all arcs", x.sets(1), 1);
    }

    private static void allSets() {
        for (int n = 1; n <= 11; n++) {
            WordMachines x = new WordMachines();
            Tell.dropper(x, 0, n, 1);
            Check.due("sets of " + n + " states, all of them", x.sets(0), 1 << n);
            Check.due("sets asked again", x.sets(0), 1 << n);
        }
    }

    private static void differentSets() {
        dueCounts("", 2, 2);
        dueCounts("a", 3, 3);
        dueCounts("a|a", 3, 3);
        dueCounts("a|b", 4, 3);
        dueCounts(".*", 2, 1);
        dueCounts("aaaaaaaaaa", 12, 12);
        dueCounts("[ab]*a[ab][ab][ab][ab][ab][ab][ab][ab]", 514, 513);
    }

    private static void setsOfEachLetter() {
        for (int letter = 0; letter < 8; letter++) {
            WordMachines x = new WordMachines();
            x.blank(0, 2);
            x.mark(0, 0, 1);
            x.arc(0, 0, letter, 1, true);
            Check.due("sets with " + letter, x.sets(0), 3);
        }
        dueCounts("[a-h]", 3, 3);
        dueCounts("a|b|c|d|e|f|g|h", 10, 3);
    }

    private static void setsOfLongWords() {
        WordMachines x = new WordMachines();
        Tell.ring(x, 0, 11, 7, 0);
        dueCounts(x, 0, 12, 12);
        // Rings of 5 and 6 side by side: 30 pairs, and the empty set.
        Tell.ring(x, 1, 5, 0, 0);
        Tell.ring(x, 2, 6, 0, 0);
        x.either(3, 1, 2);
        dueCounts(x, 3, 31, 31);
    }

    private static void setsChangesNothing() {
        Scene scene = new Scene(Tell::rich);
        scene.dueNoChange("sets(1)", x -> x.sets(1));
        scene.dueNoChange("sets(7)", x -> x.sets(7));
    }

    private static void setsNoMachine() {
        Scene scene = new Scene(Tell::rich);
        for (int k : Tell.NO_MACHINES) {
            scene.dueThrow("sets(" + k + ")", Check.INDEX, x -> x.sets(k));
        }
    }

    private static void sets11And12States() {
        Scene scene = new Scene(Tell::rich);
        scene.dueThrow("sets(2): 12 states", Check.ARGUMENT, x -> x.sets(2));
        scene.dueThrow("sets(0): 24 states", Check.ARGUMENT, x -> x.sets(0));
        for (int n = 1; n <= 24; n++) {
            WordMachines x = new WordMachines();
            Tell.chain(x, 0, n, 3);
            if (n <= 11) {
                Check.due("sets of a chain of " + n, x.sets(0), n + 1);
            } else {
                Check.dueThrow("sets of a chain of " + n, Check.ARGUMENT, () -> x.sets(0));
            }
        }
    }

    private static void oneRest() {
        WordMachines x = new WordMachines();
        for (int k = 0; k <= 7; k++) {
            Check.due("rests when new", x.rests(k), 1);
        }
        Tell.dropper(x, 0, 11, 0);
        Check.due("rests of 2048 sets without an end", x.rests(0), 1);
        x.blank(1, 11);
        for (int state = 0; state < 11; state++) {
            x.mark(1, state, state == 0 ? 3 : 2);
            arcsWithAllLetters(x, 1, state, (state + 1) % 11);
        }
        dueCounts(x, 1, 11, 1);
    }

    private static void allRests() {
        for (int n = 1; n <= 11; n++) {
            for (int ends : new int[] {1, 1 << n - 1, ALL >> 11 - n}) {
                WordMachines x = new WordMachines();
                Tell.dropper(x, 0, n, ends);
                Check.due("rests of " + n + " states, all of them", x.rests(0), 1 << n);
                Check.due("rests asked again", x.rests(0), 1 << n);
            }
        }
    }

    private static void equalRestsCountOnce() {
        dueCounts("a|b", 4, 3);
        dueCounts("a*", 3, 2);
        dueCounts("(a|b)*", 4, 2);
        dueCounts("ab|cb", 6, 4);
        dueCounts("a(b|c)|d(b|c)", 8, 4);
        dueCounts("a|b|c|d|e|f|g|h", 10, 3);
        dueCounts(".*.", 2, 2);
        dueCounts("(.|..)*", 3, 1);
    }

    private static void onlyRestsThatAreComeTo() {
        WordMachines x = new WordMachines();
        // A start that stays where it is; behind it states that no word comes to.
        x.blank(0, 11);
        x.mark(0, 0, 3);
        arcsWithAllLetters(x, 0, 0, 0);
        for (int state = 1; state < 10; state++) {
            x.arc(0, state, 0, state + 1, true);
        }
        x.mark(0, 10, 2);
        dueCounts(x, 0, 1, 1);
        x.arc(0, 0, 1, 0, false);
        x.arc(0, 0, 1, 9, true);
        // State 0; 9; 10; the empty set.
        dueCounts(x, 0, 4, 4);
    }

    /** Two starts' ways apart: the sets differ only by what comes ten letters later. */
    private static void restsThatDifferLate() {
        WordMachines x = new WordMachines();
        Tell.chain(x, 0, 11, 0);
        dueCounts(x, 0, 12, 12);
        x.mark(0, 10, 0);
        dueCounts(x, 0, 12, 1);
        x.mark(0, 0, 3);
        dueCounts(x, 0, 12, 2);
        Ask.read(x, 1, "baaaa|caaaa");
        dueCounts(x, 1, 12, 7);
        Ask.read(x, 1, "baaaa|caaab");
        dueCounts(x, 1, 12, 11);
    }

    private static void restsChangesNothing() {
        Scene scene = new Scene(Tell::rich);
        scene.dueNoChange("rests(1)", x -> x.rests(1));
        scene.dueNoChange("rests(7)", x -> x.rests(7));
    }

    private static void restsNoMachine() {
        Scene scene = new Scene(Tell::rich);
        for (int k : Tell.NO_MACHINES) {
            scene.dueThrow("rests(" + k + ")", Check.INDEX, x -> x.rests(k));
        }
    }

    private static void rests11And12States() {
        Scene scene = new Scene(Tell::rich);
        scene.dueThrow("rests(2): 12 states", Check.ARGUMENT, x -> x.rests(2));
        scene.dueThrow("rests(0): 24 states", Check.ARGUMENT, x -> x.rests(0));
        for (int n = 1; n <= 24; n++) {
            WordMachines x = new WordMachines();
            Tell.chain(x, 0, n, 3);
            if (n <= 11) {
                Check.due("rests of a chain of " + n, x.rests(0), n + 1);
            } else {
                Check.dueThrow("rests of a chain of " + n, Check.ARGUMENT, () -> x.rests(0));
            }
        }
    }
}
