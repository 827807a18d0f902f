/** Promises 15 to 18: takes, within, length, letter. */
public final class WordTest {
    public static void main(String[] args) {
        takesWords();
        withinTells();
        leastWordAmongMany();
        leastWordOfManyStates();
        longWord();
        wordBehindManySets();
        keptWordStays();
        Check.end();
    }

    private static void takesWords() {
        WordMachines x = new WordMachines();
        Ask.read(x, 0, "(a|bh)*c?");
        for (String word : new String[] {"", "a", "aa", "bh", "abha", "c", "bhc", "a".repeat(200), "bh".repeat(100)}) {
            Check.due("takes " + word, Ask.takes(x, 0, word), true);
        }
        for (String word : new String[] {"b", "h", "cc", "ca", "d", "ab", "a".repeat(199) + "b", "A", "a ", "ai", "`",
            "a\u00ff", "\0", "a*", "(a|bh)*c?"}) {
            Check.due("takes " + word, Ask.takes(x, 0, word), false);
        }
        Ask.read(x, 1, ".*");
        Check.due("takes any letter", Ask.takes(x, 1, "abcdefgh"), true);
        Check.due("takes no other byte", Ask.takes(x, 1, "abcdefghi"), false);
        Check.due("takes no byte in the middle", Ask.takes(x, 1, "ab.cd"), false);
        Check.due("the text stays", x.wipe(), 5);
        x.blank(2, 24);
        for (int state = 0; state < 23; state++) {
            x.arc(2, state, 5, state + 1, true);
        }
        x.mark(2, 0, 1);
        x.mark(2, 4, 1);
        x.mark(2, 23, 2);
        Check.due("from one start", Ask.takes(x, 2, "f".repeat(23)), true);
        Check.due("from another start", Ask.takes(x, 2, "f".repeat(19)), true);
        Check.due("from no start", Ask.takes(x, 2, "f".repeat(22)), false);
    }

    private static void dueWithin(String one, String other, String word) {
        WordMachines x = new WordMachines();
        Ask.read(x, 0, one);
        Ask.read(x, 1, other);
        Check.due(one + " within " + other, x.within(0, 1), word.equals("none"));
        Check.due("word of " + one + " within " + other, Ask.keptWord(x), word);
    }

    private static void withinTells() {
        dueWithin("a", "a", "none");
        dueWithin("a", "b", "word a");
        dueWithin("", "a", "word ");
        dueWithin("a", "", "word a");
        dueWithin("a*", "(aa)*", "word a");
        dueWithin("(aa)*", "a*", "none");
        dueWithin("(aaa)*", "(aa)*", "word aaa");
        dueWithin("(a|b)*", "(a*b*)*", "none");
        dueWithin(".*", "[a-g]*", "word h");
        dueWithin("[^a-h]", "", "none");
        dueWithin("b|aa", "", "word b");
        dueWithin("ba|ab", "", "word ab");
        dueWithin("h|g", "h", "word g");
        dueWithin(".*", "|.|.[^c]|...|[^e]c", "word ec");
        dueWithin(".*", "(.|..|...)?", "word aaaa");
        dueWithin("(a|b)*a(a|b)(a|b)(a|b)", "(a|b)*a(a|b)(a|b)", "word abaa");
    }

    /** More than one state of the one machine goes on from the same word. */
    private static void leastWordAmongMany() {
        WordMachines x = new WordMachines();
        x.blank(0, 5);
        x.mark(0, 0, 1);
        x.mark(0, 1, 1);
        x.arc(0, 0, 1, 3, true);
        x.arc(0, 1, 0, 4, true);
        x.mark(0, 3, 2);
        x.mark(0, 4, 2);
        Check.due("within the empty machine", x.within(0, 1), false);
        Check.due("least from the later start", Ask.keptWord(x), "word a");
        x.blank(2, 6);
        x.mark(2, 0, 1);
        x.arc(2, 0, 0, 1, true);
        x.arc(2, 0, 0, 2, true);
        x.arc(2, 1, 7, 3, true);
        x.arc(2, 2, 6, 4, true);
        x.arc(2, 3, 0, 5, true);
        x.arc(2, 4, 7, 5, true);
        x.mark(2, 5, 2);
        Check.due("within the empty machine again", x.within(2, 1), false);
        Check.due("least by the later state", Ask.keptWord(x), "word agh");
    }

    private static void leastWordOfManyStates() {
        WordMachines x = new WordMachines();
        x.blank(0, 24);
        x.mark(0, 0, 1);
        x.mark(0, 23, 2);
        for (int state = 0; state < 23; state++) {
            x.arc(0, state, 2, state + 1, true);
        }
        x.blank(1, 11);
        x.mark(1, 0, 3);
        for (int state = 0; state < 11; state++) {
            x.arc(1, state, 2, (state + 1) % 11, true);
        }
        Check.due("24 states within 11", x.within(0, 1), false);
        Check.due("24 states' word", Ask.keptWord(x), "word " + "c".repeat(23));
        x.mark(1, 1, 2);
        Check.due("24 states within 11 with one more end", x.within(0, 1), true);
        Check.due("24 states' word now", x.length(), -1);
    }

    /** A ring of 23 and one of 11 meet late: the word is longer than a byte could count. */
    private static void longWord() {
        WordMachines x = new WordMachines();
        x.blank(0, 23);
        x.mark(0, 0, 1);
        x.mark(0, 22, 2);
        x.blank(1, 11);
        x.mark(1, 0, 1);
        for (int state = 0; state < 23; state++) {
            x.arc(0, state, 7, (state + 1) % 23, true);
        }
        for (int state = 0; state < 11; state++) {
            x.arc(1, state, 7, (state + 1) % 11, true);
            x.mark(1, state, (state == 0 ? 1 : 0) | (state == 10 ? 0 : 2));
        }
        Check.due("ring in ring", x.within(0, 1), false);
        Check.due("the rings' word", Ask.keptWord(x), "word " + "h".repeat(252));
        Check.dueThrow("behind the rings' word", Check.INDEX, () -> x.letter(252));
    }

    /**
     * The one machine takes words of length 20 more than a multiple of 24; the other one all words
     * that do not drop each state of a full ring, which 21 letters can do at the soonest.
     */
    private static void wordBehindManySets() {
        WordMachines x = new WordMachines();
        x.blank(0, 24);
        x.mark(0, 0, 1);
        x.mark(0, 20, 2);
        for (int state = 0; state < 24; state++) {
            x.arc(0, state, 0, (state + 1) % 24, true);
            x.arc(0, state, 1, (state + 1) % 24, true);
        }
        x.blank(1, 11);
        for (int state = 0; state < 11; state++) {
            x.mark(1, state, 3);
            x.arc(1, state, 0, (state + 1) % 11, true);
            x.arc(1, state, 1, state, state != 0);
        }
        Check.due("ring within the ring that drops", x.within(0, 1), false);
        Check.due("the dropping word", Ask.keptWord(x), "word " + "a".repeat(23) + "ba".repeat(10) + "b");
        x.mark(0, 20, 0);
        Check.due("no end within the ring that drops", x.within(0, 1), true);
    }

    private static void keptWordStays() {
        WordMachines x = new WordMachines();
        Ask.read(x, 0, "(a|b)*abh");
        Ask.read(x, 1, "b*");
        Check.due("not within", x.within(0, 1), false);
        Check.due("kept", Ask.keptWord(x), "word abh");
        x.sets(0);
        x.rests(1);
        x.words(0, 9);
        x.takes(0);
        x.turn(2, 0);
        x.both(3, 1, 0);
        x.either(4, 1, 0);
        x.blank(0, 3);
        Ask.read(x, 1, "(((a)");
        Check.due("kept through other calls", Ask.keptWord(x), "word abh");
        x.blank(5, 12);
        Check.dueThrow("within(0, 5)", Check.ARGUMENT, () -> x.within(0, 5));
        Check.dueThrow("within(0, 8)", Check.INDEX, () -> x.within(0, 8));
        Check.due("kept when within throws", Ask.keptWord(x), "word abh");
        Check.due("within now", x.within(0, 1), true);
        Check.due("length now", x.length(), -1);
        Check.dueThrow("letter now", Check.INDEX, () -> x.letter(0));
        Check.dueThrow("within(0, 5) again", Check.ARGUMENT, () -> x.within(0, 5));
        Check.due("length still", x.length(), -1);
    }
}
