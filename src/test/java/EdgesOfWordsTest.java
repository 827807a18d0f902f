/** The edges of words and of promises 15 to 18 (takes, within, length, letter). */
public final class EdgesOfWordsTest {
    public static void main(String[] args) {
        Check.terms("the lesser one of two is the shorter one", EdgesOfWordsTest::theShorterOneIsLess);
        Check.terms("that with the lesser letter where they differ first", EdgesOfWordsTest::theLesserLetterIsLess);
        Check.terms("the lesser one of two", EdgesOfWordsTest::everyTwoShortWords);
        Check.terms("lead from a start to an end", EdgesOfWordsTest::fromAStartToAnEnd);
        Check.terms("(the empty word: if some start is an end)", EdgesOfWordsTest::theEmptyWord);

        Check.promise(15, "(bytes a to h; with others it does not)", EdgesOfWordsTest::takesEveryByteAlone);
        Check.promise(15, "with others it does not", EdgesOfWordsTest::takesNoOtherByteAnywhere);
        Check.promise(15, "Whether machine k takes the text as a word", EdgesOfWordsTest::takesTextsOf0To200);
        Check.promise(15, "Whether machine k takes the text as a word", EdgesOfWordsTest::takesBy24States);
        Check.promise(15, "Whether machine k takes the text as a word", EdgesOfWordsTest::takesByEachMachine);
        Check.promise(15, "Whether machine k takes the text as a word", EdgesOfWordsTest::takesChangesNothing);
        Check.promise(15, "IndexOutOfBoundsException: there is no machine k", EdgesOfWordsTest::takesWrong);

        Check.promise(16, "Whether machine j takes all words that machine i takes", EdgesOfWordsTest::withinWhenNoWord);
        Check.promise(16, "Whether machine j takes all words that machine i takes", EdgesOfWordsTest::withinItself);
        Check.promise(16, "Whether machine j takes all words that machine i takes", EdgesOfWordsTest::withinAllWords);
        Check.promise(16, "if not, the least one that it does not is kept", EdgesOfWordsTest::withinKeepsTheLeast);
        Check.promise(16, "if not, the least one that it does not is kept", EdgesOfWordsTest::withinKeepsOverTheOlder);
        Check.promise(16, "if not, the least one that it does not is kept", EdgesOfWordsTest::withinKeepsALongWord);
        Check.promise(16, "Whether machine j takes all words that machine i takes", EdgesOfWordsTest::withinChangesNoMore);
        Check.promise(16, "IndexOutOfBoundsException: there is no machine i or j", EdgesOfWordsTest::withinNoMachine);
        Check.promise(16, "IllegalArgumentException: j has more than 11 states", EdgesOfWordsTest::withinElevenStates);
        Check.promise(16, "IllegalArgumentException: j has more than 11 states", EdgesOfWordsTest::withinTwelveStates);
        Check.promise(16, "the one named first when several would do", EdgesOfWordsTest::withinBothWrong);

        Check.promise(17, "or there was none", EdgesOfWordsTest::lengthWhenNew);
        Check.promise(17, "NONE when it was true", EdgesOfWordsTest::lengthWhenTrue);
        Check.promise(17, "The length of the word that the last within() kept", EdgesOfWordsTest::lengths0To23);
        Check.promise(17, "The length of the word that the last within() kept", EdgesOfWordsTest::wordStays);
        Check.promise(17, "The length of the word that the last within() kept", EdgesOfWordsTest::lengthChangesNothing);

        Check.promise(18, "Letter t of that word", EdgesOfWordsTest::letters0To7);
        Check.promise(18, "Letter t of that word", EdgesOfWordsTest::letterChangesNothing);
        Check.promise(18, "IndexOutOfBoundsException: there is none", EdgesOfWordsTest::letterBesideTheWord);
        Check.promise(18, "IndexOutOfBoundsException: there is none", EdgesOfWordsTest::letterOfTheEmptyWord);
        Check.promise(18, "IndexOutOfBoundsException: there is none", EdgesOfWordsTest::letterOfNoWord);
        Check.end();
    }

    /** The least of the words of an expression. */
    private static void dueLeast(String text, String want) {
        WordMachines x = new WordMachines();
        Ask.read(x, 0, text);
        Check.due(text + " within nothing", x.within(0, 1), false);
        Check.due("the least word of " + text, Ask.keptWord(x), "word " + want);
    }

    private static void theShorterOneIsLess() {
        dueLeast("a|", "");
        dueLeast("aa|h", "h");
        dueLeast("aaa|hh", "hh");
        dueLeast("hhh|aaaa|ggggg", "hhh");
        dueLeast("a".repeat(12) + "|" + "h".repeat(11), "h".repeat(11));
    }

    private static void theLesserLetterIsLess() {
        dueLeast("b|a", "a");
        dueLeast("h|g", "g");
        dueLeast("ba|ah", "ah");
        dueLeast("aba|aah", "aah");
        dueLeast("abh|aca", "abh");
        dueLeast("ab|aa", "aa");
        dueLeast("bbbbbbbbbba|abbbbbbbbbb", "abbbbbbbbbb");
        dueLeast("aaaaaaaaaac|aaaaaaaaaab", "aaaaaaaaaab");
    }

    private static String wordOf(int code) {
        if (code == 0) {
            return "";
        }
        if (code <= 8) {
            return String.valueOf((char) ('a' + code - 1));
        }
        return "" + (char) ('a' + (code - 9) / 8) + (char) ('a' + (code - 9) % 8);
    }

    private static void everyTwoShortWords() {
        for (int less = 0; less < 73; less++) {
            for (int more = less + 1; more < 73; more++) {
                dueLeast(wordOf(more) + "|" + wordOf(less), wordOf(less));
            }
        }
    }

    private static void fromAStartToAnEnd() {
        WordMachines x = new WordMachines();
        x.blank(0, 5);
        x.arc(0, 0, 0, 1, true);
        x.arc(0, 1, 1, 2, true);
        x.arc(0, 3, 1, 4, true);
        Ask.setText(x, "ab");
        Check.due("no start, no end", x.takes(0), false);
        x.mark(0, 0, 1);
        Check.due("no end", x.takes(0), false);
        x.mark(0, 1, 2);
        Check.due("an end on the way", x.takes(0), false);
        x.mark(0, 4, 2);
        Check.due("an end elsewhere", x.takes(0), false);
        x.mark(0, 2, 2);
        Check.due("an end", x.takes(0), true);
        x.mark(0, 0, 0);
        x.mark(0, 3, 1);
        Check.due("a start elsewhere", x.takes(0), false);
        x.arc(0, 3, 0, 1, true);
        Check.due("the way from another start", x.takes(0), true);
        x.arc(0, 1, 1, 2, false);
        Check.due("no way", x.takes(0), false);
    }

    private static void theEmptyWord() {
        for (int n : new int[] {1, 2, 24}) {
            WordMachines x = new WordMachines();
            x.blank(0, n);
            Check.due("nothing", x.takes(0), false);
            x.mark(0, n - 1, 1);
            Check.due("a start", x.takes(0), false);
            x.mark(0, 0, n == 1 ? 1 : 2);
            Check.due("a start, and an end elsewhere", x.takes(0), false);
            x.arc(0, n - 1, 0, 0, true);
            Check.due("with an arc between them", x.takes(0), false);
            x.mark(0, n - 1, 3);
            Check.due("a start that is an end", x.takes(0), true);
            x.mark(0, n - 1, 2);
            Check.due("an end alone", x.takes(0), false);
        }
    }

    private static void takesEveryByteAlone() {
        WordMachines x = new WordMachines();
        for (int b = 0; b < 256; b++) {
            if (b % 64 == 0) {
                x = new WordMachines();
                Ask.read(x, 0, ".");
            }
            Check.due("takes byte " + b, Ask.takes(x, 0, String.valueOf((char) b)), b >= 'a' && b <= 'h');
        }
    }

    private static void takesNoOtherByteAnywhere() {
        for (int b = 0; b < 256; b++) {
            if (b < 'a' || b > 'h') {
                WordMachines x = new WordMachines();
                Ask.read(x, 0, ".*");
                char c = (char) b;
                Check.due("takes " + b + " first", Ask.takes(x, 0, c + "a"), false);
                Check.due("takes " + b + " last", Ask.takes(x, 0, "abcdefgh" + c), false);
                Check.due("takes " + b + " between", Ask.takes(x, 0, "abcd" + c + "efgh"), false);
            }
        }
        WordMachines x = new WordMachines();
        Ask.read(x, 0, ".*");
        Check.due("takes i as the 200th byte", Ask.takes(x, 0, "a".repeat(199) + "i"), false);
        Check.due("takes h as the 200th byte", Ask.takes(x, 0, "a".repeat(199) + "h"), true);
        Check.due("takes an expression", Ask.takes(x, 0, "a*"), false);
    }

    private static void takesTextsOf0To200() {
        for (int size = 0; size <= 200; size++) {
            WordMachines x = new WordMachines();
            Tell.ring(x, 0, 24, 0, size % 24);
            Tell.ring(x, 1, 23, 0, (size + 1) % 23);
            Tell.feedMany(x, size, 'a');
            Check.due("takes " + size, x.takes(0), true);
            Check.due("takes one more than " + size, x.takes(1), false);
        }
    }

    private static void takesBy24States() {
        WordMachines x = new WordMachines();
        Tell.chain(x, 0, 24, 7);
        Check.due("23 letters", Ask.takes(x, 0, "h".repeat(23)), true);
        Check.due("22 letters", Ask.takes(x, 0, "h".repeat(22)), false);
        Check.due("24 letters", Ask.takes(x, 0, "h".repeat(24)), false);
        x.mark(0, 23, 3);
        Check.due("no letter, by state 23", Ask.takes(x, 0, ""), true);
        x.arc(0, 23, 0, 23, true);
        Check.due("200 letters, by state 23", Ask.takes(x, 0, "a".repeat(200)), true);
        Check.due("23 letters and 177", Ask.takes(x, 0, "h".repeat(23) + "a".repeat(177)), true);
    }

    private static void takesByEachMachine() {
        for (int k = 0; k <= 7; k++) {
            WordMachines x = new WordMachines();
            x.mark(k, 0, 3);
            for (int other = 0; other <= 7; other++) {
                Check.due("takes by " + other, x.takes(other), other == k);
            }
        }
    }

    private static void takesChangesNothing() {
        Scene scene = new Scene(Tell::rich);
        scene.dueNoChange("takes(0)", x -> x.takes(0));
        scene.dueNoChange("takes(7)", x -> x.takes(7));
        Scene word = new Scene(() -> {
            WordMachines x = Tell.rich();
            Ask.setText(x, "a".repeat(10));
            return x;
        });
        word.dueNoChange("takes(1)", x -> x.takes(1));
    }

    private static void takesWrong() {
        Scene scene = new Scene(Tell::rich);
        for (int k : Tell.NO_MACHINES) {
            scene.dueThrow("takes(" + k + ")", Check.INDEX, x -> x.takes(k));
        }
    }

    private static void dueWithin(WordMachines x, int i, int j, String want) {
        Check.due("within(" + i + ", " + j + ")", x.within(i, j), want.equals("none"));
        Check.due("the word of within(" + i + ", " + j + ")", Ask.keptWord(x), want);
    }

    private static void withinWhenNoWord() {
        WordMachines x = new WordMachines();
        dueWithin(x, 0, 1, "none");
        x.mark(0, 0, 1);
        dueWithin(x, 0, 1, "none");
        x.mark(0, 0, 2);
        dueWithin(x, 0, 1, "none");
        x.blank(0, 24);
        x.mark(0, 0, 1);
        x.mark(0, 23, 2);
        x.arc(0, 0, 0, 22, true);
        dueWithin(x, 0, 1, "none");
        x.arc(0, 22, 0, 23, true);
        dueWithin(x, 0, 1, "word aa");
        Ask.read(x, 2, "[^a-h]");
        dueWithin(x, 2, 1, "none");
    }

    private static void withinItself() {
        WordMachines x = new WordMachines();
        dueWithin(x, 0, 0, "none");
        for (String text : new String[] {"", "a", ".*", "(a|b)*abb", "(a?b?c?d?e?)*fghh"}) {
            Ask.read(x, 7, text);
            dueWithin(x, 7, 7, "none");
        }
    }

    private static void withinAllWords() {
        WordMachines x = new WordMachines();
        Ask.read(x, 0, "(" + ".|".repeat(22) + ".)*");
        Ask.read(x, 1, ".*");
        dueWithin(x, 0, 1, "none");
        for (int letter = 0; letter < 8; letter++) {
            char c = (char) ('a' + letter);
            Ask.read(x, 2, "[^" + c + "]*");
            dueWithin(x, 0, 2, "word " + c);
            Ask.read(x, 2, "[^" + c + "]*|.*" + c + ".*");
            dueWithin(x, 0, 2, "none");
        }
        Ask.read(x, 2, ".+");
        dueWithin(x, 0, 2, "word ");
    }

    private static void withinKeepsTheLeast() {
        WordMachines x = new WordMachines();
        Ask.read(x, 0, ".*");
        Ask.read(x, 1, "|.|[^h].|h[^h]");
        dueWithin(x, 0, 1, "word hh");
        Ask.read(x, 1, ".?.?|[^d]..|d([^a].|a[^f])");
        dueWithin(x, 0, 1, "word daf");
        // Both starts come to the end, one of them by the shorter way.
        x.blank(2, 4);
        x.mark(2, 0, 1);
        x.mark(2, 1, 1);
        x.mark(2, 3, 2);
        x.arc(2, 0, 1, 3, true);
        x.arc(2, 1, 0, 2, true);
        x.arc(2, 2, 0, 3, true);
        dueWithin(x, 2, 7, "word b");
        x.arc(2, 0, 1, 3, false);
        dueWithin(x, 2, 7, "word aa");
        // The least word goes by a state that stands behind others.
        x.blank(3, 6);
        x.mark(3, 5, 1);
        x.mark(3, 0, 2);
        x.arc(3, 5, 1, 1, true);
        x.arc(3, 5, 0, 4, true);
        x.arc(3, 1, 0, 0, true);
        x.arc(3, 4, 7, 0, true);
        dueWithin(x, 3, 7, "word ah");
    }

    private static void withinKeepsOverTheOlder() {
        WordMachines x = new WordMachines();
        Ask.read(x, 0, "abcdefg");
        Ask.read(x, 1, "hh");
        Ask.read(x, 2, "");
        dueWithin(x, 0, 1, "word abcdefg");
        dueWithin(x, 1, 0, "word hh");
        dueWithin(x, 2, 0, "word ");
        dueWithin(x, 0, 2, "word abcdefg");
        dueWithin(x, 0, 0, "none");
        dueWithin(x, 1, 2, "word hh");
    }

    /**
     * Machine 1 takes all words but those that count up in five bits, one letter for each step
     * (the bit that turns 1, or f when all turn 0), and stop when all bits are 1: two states for
     * each bit, and one for words that went wrong. Machine 0 takes words whose length is 22 more
     * than a multiple of 23. So the least word has 23 times 32 letters less one.
     */
    private static WordMachines counters() {
        WordMachines x = new WordMachines();
        x.blank(0, 23);
        x.mark(0, 0, 1);
        x.mark(0, 22, 2);
        x.blank(1, 11);
        x.mark(1, 10, 2);
        for (int letter = 0; letter < 6; letter++) {
            for (int state = 0; state < 23; state++) {
                x.arc(0, state, letter, (state + 1) % 23, true);
            }
            x.arc(1, 10, letter, 10, true);
            for (int bit = 0; bit < 5; bit++) {
                int zero = 2 * bit;
                int one = 2 * bit + 1;
                x.mark(1, zero, 3);
                x.arc(1, zero, letter, letter < bit ? zero : letter == bit ? one : 10, true);
                x.arc(1, one, letter, letter < bit ? one : letter == bit ? 10 : zero, true);
            }
        }
        x.within(0, 1);
        return x;
    }

    private static void withinKeepsALongWord() {
        Check.due("the length", counters().length(), 735);
        WordMachines x = counters();
        Check.dueThrow("letter 735", Check.INDEX, () -> x.letter(735));
        Check.due("within still not", x.within(0, 1), false);
        for (int from = 0; from < 735; from += 200) {
            WordMachines y = counters();
            for (int t = from; t < 735 && t < from + 200; t++) {
                int step = (t + 1) % 32;
                Check.due("letter " + t, y.letter(t), step == 0 ? 5 : Integer.numberOfTrailingZeros(step));
            }
        }
    }

    private static void withinChangesNoMore() {
        Scene scene = new Scene(Tell::rich);
        scene.dueChangeOfWordAlone("within(0, 1)", x -> x.within(0, 1));
        scene.dueChangeOfWordAlone("within(1, 1)", x -> x.within(1, 1));
        scene.dueChangeOfWordAlone("within(3, 5)", x -> x.within(3, 5));
    }

    private static void withinNoMachine() {
        Scene scene = new Scene(Tell::rich);
        for (int k : Tell.NO_MACHINES) {
            scene.dueThrow("within(" + k + ", 1)", Check.INDEX, x -> x.within(k, 1));
            scene.dueThrow("within(1, " + k + ")", Check.INDEX, x -> x.within(1, k));
            scene.dueThrow("within(" + k + ", " + k + ")", Check.INDEX, x -> x.within(k, k));
        }
    }

    private static void withinElevenStates() {
        for (int n = 1; n <= 24; n++) {
            WordMachines x = new WordMachines();
            Tell.chain(x, 0, n, 7);
            Tell.chain(x, 1, 11, 7);
            dueWithin(x, 0, 1, n == 11 ? "none" : "word " + "h".repeat(n - 1));
        }
        WordMachines x = new WordMachines();
        Tell.dropper(x, 1, 11, 2047);
        x.mark(0, 0, 3);
        x.arc(0, 0, 0, 0, true);
        x.arc(0, 0, 1, 0, true);
        // Each b drops one state, and between two of them a brings the next one: b and ten times ab.
        dueWithin(x, 0, 1, "word b" + "ab".repeat(10));
    }

    private static void withinTwelveStates() {
        Scene scene = new Scene(Tell::rich);
        scene.dueThrow("within(1, 2): 12 states", Check.ARGUMENT, x -> x.within(1, 2));
        scene.dueThrow("within(2, 2): 12 states", Check.ARGUMENT, x -> x.within(2, 2));
        scene.dueThrow("within(7, 2): 12 states, and no words", Check.ARGUMENT, x -> x.within(7, 2));
        scene.dueThrow("within(0, 0): 24 states", Check.ARGUMENT, x -> x.within(0, 0));
        scene.dueThrow("within(1, 0): 24 states", Check.ARGUMENT, x -> x.within(1, 0));
        for (int n = 1; n <= 24; n++) {
            WordMachines x = new WordMachines();
            x.blank(0, n);
            Check.dueThrow("within " + n + " states", n <= 11 ? Check.NOTHING : Check.ARGUMENT, () -> x.within(1, 0));
            Check.dueThrow(n + " states within 1", Check.NOTHING, () -> x.within(0, 1));
        }
    }

    private static void withinBothWrong() {
        WordMachines x = Tell.rich();
        Check.dueThrow("within(8, 2)", Check.INDEX, () -> x.within(8, 2));
        Check.dueThrow("within(-1, 0)", Check.INDEX, () -> x.within(-1, 0));
    }

    private static void lengthWhenNew() {
        WordMachines x = new WordMachines();
        Check.due("length", x.length(), -1);
        Ask.read(x, 0, "ab");
        x.blank(1, 12);
        x.takes(0);
        Check.due("length before the first within", x.length(), -1);
        Check.dueThrow("within(0, 1)", Check.ARGUMENT, () -> x.within(0, 1));
        Check.dueThrow("within(0, 8)", Check.INDEX, () -> x.within(0, 8));
        Check.due("length behind within that threw", x.length(), -1);
    }

    private static void lengthWhenTrue() {
        WordMachines x = new WordMachines();
        Check.due("within", x.within(0, 1), true);
        Check.due("length", x.length(), -1);
        Ask.read(x, 0, "ab");
        Check.due("within", x.within(0, 1), false);
        Check.due("length", x.length(), 2);
        Check.due("within", x.within(1, 0), true);
        Check.due("length", x.length(), -1);
        Check.due("length asked again", x.length(), -1);
    }

    private static void lengths0To23() {
        for (int size = 0; size <= 23; size++) {
            WordMachines x = new WordMachines();
            Ask.read(x, 0, "a".repeat(size));
            Check.due("within", x.within(0, 1), false);
            Check.due("length", x.length(), size);
            Check.due("length asked again", x.length(), size);
        }
    }

    private static void wordStays() {
        WordMachines x = new WordMachines();
        Ask.read(x, 0, "(ab|c+)+dh");
        Ask.read(x, 1, "cdh");
        x.within(0, 1);
        Check.due("the word", Ask.keptWord(x), "word abdh");
        x.blank(0, 1);
        x.blank(1, 12);
        x.read(2);
        x.sets(2);
        x.rests(2);
        x.words(2, 20);
        x.takes(2);
        x.either(3, 2, 2);
        x.both(3, 2, 2);
        x.turn(3, 2);
        x.wipe();
        Check.dueThrow("within(0, 1)", Check.ARGUMENT, () -> x.within(0, 1));
        Check.dueThrow("within(8, 2)", Check.INDEX, () -> x.within(8, 2));
        Check.dueThrow("within(2, -1)", Check.INDEX, () -> x.within(2, -1));
        Check.dueThrow("letter(4)", Check.INDEX, () -> x.letter(4));
        Check.due("the word through other calls", Ask.keptWord(x), "word abdh");
    }

    private static void lengthChangesNothing() {
        Scene scene = new Scene(Tell::rich);
        scene.dueNoChange("length()", WordMachines::length);
        Scene fresh = new Scene(WordMachines::new);
        fresh.dueNoChange("length() when new", WordMachines::length);
    }

    private static void letters0To7() {
        WordMachines x = new WordMachines();
        Ask.read(x, 0, "habcdefgh");
        x.within(0, 1);
        Check.due("the last letter", x.letter(8), 7);
        Check.due("the first letter", x.letter(0), 7);
        for (int t = 1; t <= 8; t++) {
            Check.due("letter " + t, x.letter(t), t - 1);
        }
        Check.due("letter 1 again", x.letter(1), 0);
    }

    private static void letterChangesNothing() {
        Scene scene = new Scene(Tell::rich);
        scene.dueNoChange("letter(0)", x -> x.letter(0));
        scene.dueNoChange("letter(2)", x -> x.letter(2));
    }

    private static final int[] FAR_PLACES = {-1, -2, 256, 1 << 16, Integer.MIN_VALUE, Integer.MAX_VALUE};

    private static void letterBesideTheWord() {
        Scene scene = new Scene(Tell::rich);
        Check.due("the word's length", Tell.rich().length(), 3);
        for (int t : FAR_PLACES) {
            scene.dueThrow("letter(" + t + ")", Check.INDEX, x -> x.letter(t));
        }
        scene.dueThrow("letter(3)", Check.INDEX, x -> x.letter(3));
        scene.dueThrow("letter(4)", Check.INDEX, x -> x.letter(4));
        for (int size = 1; size <= 23; size++) {
            int behind = size;
            WordMachines x = new WordMachines();
            Tell.chain(x, 0, size + 1, 5);
            x.within(0, 1);
            Check.due("the first letter", x.letter(0), 5);
            Check.due("the last letter", x.letter(size - 1), 5);
            Check.dueThrow("letter(" + size + ") of " + size, Check.INDEX, () -> x.letter(behind));
            Check.dueThrow("letter(-1) of " + size, Check.INDEX, () -> x.letter(-1));
        }
        // The older word was longer.
        WordMachines x = new WordMachines();
        Ask.read(x, 0, "abc");
        x.within(0, 2);
        Ask.read(x, 0, "h");
        x.within(0, 2);
        Check.due("the newer word", x.letter(0), 7);
        Check.dueThrow("letter(1) of the newer word", Check.INDEX, () -> x.letter(1));
    }

    private static void letterOfTheEmptyWord() {
        WordMachines x = new WordMachines();
        x.mark(0, 0, 3);
        Check.due("within", x.within(0, 1), false);
        Check.due("length", x.length(), 0);
        Check.dueThrow("letter(0)", Check.INDEX, () -> x.letter(0));
        Check.dueThrow("letter(-1)", Check.INDEX, () -> x.letter(-1));
        Check.due("length still", x.length(), 0);
    }

    private static void letterOfNoWord() {
        Scene fresh = new Scene(WordMachines::new);
        fresh.dueThrow("letter(0) when new", Check.INDEX, x -> x.letter(0));
        Scene scene = new Scene(() -> {
            WordMachines x = Tell.rich();
            x.within(1, 1);
            return x;
        });
        for (int t : new int[] {0, 1, 2, 3}) {
            scene.dueThrow("letter(" + t + ") when within was true", Check.INDEX, x -> x.letter(t));
        }
        for (int t : FAR_PLACES) {
            fresh.dueThrow("letter(" + t + ") when new", Check.INDEX, x -> x.letter(t));
        }
    }
}
