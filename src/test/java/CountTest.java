/** Promises 19 to 21: words, sets, rests. */
public final class CountTest {
    public static void main(String[] args) {
        wordsOfExpressions();
        wordsOneByOne();
        setsAndRests();
        setsAndRestsOfToldMachines();
        allSetsOfElevenStates();
        Check.end();
    }

    private static void dueWords(String text, long... want) {
        WordMachines x = new WordMachines();
        Ask.read(x, 6, text);
        for (int length = 0; length < want.length; length++) {
            Check.due("words of " + text + " of " + length, x.words(6, length), want[length]);
        }
    }

    private static void wordsOfExpressions() {
        dueWords("", 1, 0, 0);
        dueWords("a", 0, 1, 0);
        dueWords(".", 0, 8, 0);
        dueWords("a|a|a", 0, 1, 0);
        dueWords("a*a*", 1, 1, 1, 1, 1);
        dueWords("(a|b)*b", 0, 1, 2, 4, 8, 16);
        dueWords("[ab]?[bc]?", 1, 3, 4, 0);
        dueWords("(aa|aaa)*", 1, 0, 1, 1, 1, 1, 1);
        dueWords("[^a-h]*", 1, 0, 0);
        WordMachines x = new WordMachines();
        Ask.read(x, 0, ".*");
        long power = 1;
        for (int length = 0; length <= 20; length++) {
            Check.due("all words of " + length, x.words(0, length), power);
            power *= 8;
        }
        Ask.read(x, 0, ".*a.*");
        long seven = 1;
        long eight = 1;
        for (int length = 0; length <= 20; length++) {
            Check.due("words with an a of " + length, x.words(0, length), eight - seven);
            seven *= 7;
            eight *= 8;
        }
    }

    private static void wordsOneByOne() {
        for (String text : new String[] {"(a|bc)*", "[a-d]?.b", "(a|b)*a(a|b)", "((a|b)(c|d)?)+", "(.a)*|b+"}) {
            WordMachines x = new WordMachines();
            Ask.read(x, 0, text);
            for (int length = 0; length <= 4; length++) {
                Check.due("words of " + text + " of " + length, x.words(0, length), countTaken(text, length));
            }
        }
    }

    private static int countTaken(String text, int length) {
        WordMachines x = new WordMachines();
        int taken = 0;
        for (int code = 0; code < 1 << 3 * length; code++) {
            // Three calls for each word; an object is good for 512.
            if (code % 128 == 0) {
                x = new WordMachines();
                Ask.read(x, 0, text);
            }
            StringBuilder word = new StringBuilder();
            for (int t = 0; t < length; t++) {
                word.append((char) ('a' + (code >> 3 * t & 7)));
            }
            if (Ask.takes(x, 0, word.toString())) {
                taken++;
            }
        }
        return taken;
    }

    private static void dueSets(String text, int sets, int rests) {
        WordMachines x = new WordMachines();
        Ask.read(x, 5, text);
        Check.due("sets of " + text, x.sets(5), sets);
        Check.due("rests of " + text, x.rests(5), rests);
    }

    private static void setsAndRests() {
        dueSets("", 2, 2);
        dueSets("a", 3, 3);
        dueSets(".*", 2, 1);
        dueSets(".", 3, 3);
        dueSets("[^a-h]", 2, 1);
        dueSets("a|b", 4, 3);
        dueSets("a|a", 3, 3);
        dueSets("a*", 3, 2);
        dueSets("a*a*", 3, 2);
        dueSets("(a|b)*abb", 6, 5);
        dueSets("ab|cb", 6, 4);
        dueSets("(ab|ac)*", 5, 3);
        dueSets("a(b|c)|d(b|c)", 8, 4);
        dueSets(".*a", 3, 2);
        dueSets("[ab]*a[ab]", 6, 5);
        dueSets("[ab]*a[ab][ab][ab][ab]", 34, 33);
        dueSets("[ab]*a[ab][ab][ab][ab][ab][ab][ab]", 258, 257);
    }

    private static void setsAndRestsOfToldMachines() {
        WordMachines x = new WordMachines();
        Check.due("no start: sets", x.sets(0), 1);
        Check.due("no start: rests", x.rests(0), 1);
        x.mark(0, 0, 2);
        Check.due("an end alone: sets", x.sets(0), 1);
        Check.due("an end alone: rests", x.rests(0), 1);
        x.mark(0, 0, 1);
        Check.due("a start alone: sets", x.sets(0), 2);
        Check.due("a start alone: rests", x.rests(0), 1);
        x.mark(0, 0, 3);
        Check.due("both: sets", x.sets(0), 2);
        Check.due("both: rests", x.rests(0), 2);
        for (int letter = 0; letter < 8; letter++) {
            x.arc(0, 0, letter, 0, true);
        }
        Check.due("all words: sets", x.sets(0), 1);
        Check.due("all words: rests", x.rests(0), 1);
        x.blank(1, 3);
        x.mark(1, 0, 1);
        x.mark(1, 1, 1);
        x.mark(1, 2, 3);
        Check.due("three starts: sets", x.sets(1), 2);
        Check.due("three starts: rests", x.rests(1), 2);
        x.arc(1, 0, 0, 0, true);
        x.arc(1, 1, 1, 1, true);
        Check.due("states that come to no end: sets", x.sets(1), 4);
        Check.due("states that come to no end: rests", x.rests(1), 2);
    }

    private static WordMachines withAllSets() {
        WordMachines x = new WordMachines();
        x.blank(2, 11);
        for (int state = 0; state < 11; state++) {
            x.mark(2, state, state == 0 ? 3 : 1);
            x.arc(2, state, 0, (state + 1) % 11, true);
            if (state != 0) {
                x.arc(2, state, 1, state, true);
            }
        }
        return x;
    }

    private static void allSetsOfElevenStates() {
        WordMachines x = withAllSets();
        Check.due("all sets", x.sets(2), 2048);
        Check.due("all rests", x.rests(2), 2048);
        x.blank(3, 11);
        for (int state = 0; state < 11; state++) {
            x.mark(3, state, 3);
        }
        Check.due("sets behind a dearer call", x.sets(3), 2);
        Check.due("rests behind a dearer call", x.rests(3), 2);
        Check.due("words behind a dearer call", x.words(3, 0), 1);
        for (int state = 1; state < 11; state++) {
            x.mark(2, state, 3);
        }
        Check.due("all sets, all ends", x.sets(2), 2048);
        // The word that takes away all states but one tells whether that one is in the set.
        Check.due("all rests, all ends", x.rests(2), 2048);
    }
}
