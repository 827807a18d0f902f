/** The edges of what stands before the promises on expressions and their machines. */
public final class EdgesOfExpressionsTest {
    public static void main(String[] args) {
        Check.terms("LETTERS are 0 to 7, written a to h", EdgesOfExpressionsTest::lettersAToH);
        Check.terms("EXPRESSIONS (no blanks)", EdgesOfExpressionsTest::noBlanks);
        Check.terms("PARTS with | between them, one or more", EdgesOfExpressionsTest::oneToManyParts);
        Check.terms("A part: no THING", EdgesOfExpressionsTest::partsWithoutThings);
        Check.terms("or some behind one another", EdgesOfExpressionsTest::oneToManyThings);
        Check.terms("an ATOM, and any number of *, + and ? behind it", EdgesOfExpressionsTest::noneToManySigns);
        Check.terms("an ATOM, and any number of *, + and ? behind it", EdgesOfExpressionsTest::signsWithoutAtom);
        Check.terms("a point (any letter)", EdgesOfExpressionsTest::point);
        Check.terms("perhaps a ^", EdgesOfExpressionsTest::noneOneAndTwoNots);
        Check.terms("and then one or more letters", EdgesOfExpressionsTest::noneToManyLettersInBrackets);
        Check.terms("or letter, -, letter", EdgesOfExpressionsTest::rangesCutShort);
        Check.terms("all from the first to the second one", EdgesOfExpressionsTest::everyRange);
        Check.terms("which must not be less", EdgesOfExpressionsTest::everyRangeThatIsLess);
        Check.terms("or with ^ all others", EdgesOfExpressionsTest::everyRangeWithNot);
        Check.terms("or ( an expression )", EdgesOfExpressionsTest::parentheses);

        Check.terms("state 0, its start", EdgesOfExpressionsTest::state0IsTheStart);
        Check.terms("for each letter, point or [ ] one more, in their order", EdgesOfExpressionsTest::statesInOrder);
        Check.terms("arcs to these have just the letters that it stands for", EdgesOfExpressionsTest::justItsLetters);
        Check.terms("of an atom that is no ( ): not; its state, for both", EdgesOfExpressionsTest::atomAlone);
        Check.terms("Of two that stand behind one another: if to both", EdgesOfExpressionsTest::rowBelongs);
        Check.terms("and of the latter if it belongs to the former", EdgesOfExpressionsTest::rowFirsts);
        Check.terms("and of the former if it belongs to the latter", EdgesOfExpressionsTest::rowLasts);
        Check.terms("arcs from each last one of the former to each first one of the latter",
                EdgesOfExpressionsTest::rowArcs);
        Check.terms("Of parts: if to one of them", EdgesOfExpressionsTest::partsBelong);
        Check.terms("the first and last ones of all", EdgesOfExpressionsTest::partsFirstsAndLasts);
        Check.terms("for * and ? it belongs, for + if it belonged", EdgesOfExpressionsTest::signsBelong);
        Check.terms("first and last ones stay; for * and + there are arcs from each last one to each first one",
                EdgesOfExpressionsTest::signsArcs);
        Check.terms("Of no thing at all: it belongs; none", EdgesOfExpressionsTest::nothingAtAll);
        Check.terms("At the end arcs go from state 0 to the first ones", EdgesOfExpressionsTest::arcsFromState0);
        Check.terms("ends are the last ones, and state 0 if the empty word belongs", EdgesOfExpressionsTest::ends);
        Check.end();
    }

    private static void lettersAToH() {
        for (char c = 'a'; c <= 'h'; c++) {
            Reading.dueMachine(String.valueOf(c), "0:1 " + c + "1; 1:2;");
            Reading.dueLetters("[" + c + "]", String.valueOf(c));
        }
        for (char c : new char[] {'`', 'i', 'A', 'H', '0', 'a' + 128, 'h' + 128}) {
            Reading.dueFault(String.valueOf(c), 1, 0);
            Reading.dueFault("[" + c + "]", 1, 1);
            Reading.dueFault("[a-" + c + "]", 1, 3);
        }
    }

    private static void noBlanks() {
        for (String blank : new String[] {" ", "\t", "\n", "\r", "\0", "\u00a0"}) {
            Reading.dueFault(blank, 1, 0);
            Reading.dueFault(blank + "a", 1, 0);
            Reading.dueFault("a" + blank, 1, 1);
            Reading.dueFault("a" + blank + "b", 1, 1);
            Reading.dueFault("(" + blank + ")", 1, 1);
            Reading.dueFault("[" + blank + "a]", 1, 1);
            Reading.dueFault("[a" + blank + "]", 1, 2);
        }
    }

    private static void oneToManyParts() {
        Reading.dueMachine("a", "0:1 a1; 1:2;");
        Reading.dueMachine("a|b", "0:1 a1 b2; 1:2; 2:2;");
        Reading.dueMachine("a|b|c", "0:1 a1 b2 c3; 1:2; 2:2; 3:2;");
        Reading.dueStates("a" + "|b".repeat(22), 24);
        Reading.dueStates("|".repeat(200), 1);
    }

    private static void partsWithoutThings() {
        Reading.dueMachine("", "0:3;");
        Reading.dueMachine("|", "0:3;");
        Reading.dueMachine("||", "0:3;");
        Reading.dueMachine("|a", "0:3 a1; 1:2;");
        Reading.dueMachine("a|", "0:3 a1; 1:2;");
        Reading.dueMachine("a||b", "0:3 a1 b2; 1:2; 2:2;");
        Reading.dueMachine("(|a)b", "0:1 a1 b2; 1:0 b2; 2:2;");
        Reading.dueMachine("(a|)b", "0:1 a1 b2; 1:0 b2; 2:2;");
    }

    private static void oneToManyThings() {
        Reading.dueMachine("ab", "0:1 a1; 1:0 b2; 2:2;");
        Reading.dueMachine("abc", "0:1 a1; 1:0 b2; 2:0 c3; 3:2;");
        Reading.dueStates("a".repeat(23), 24);
        Reading.dueStates("()".repeat(100), 1);
    }

    private static void noneToManySigns() {
        Reading.dueMachine("a*", "0:3 a1; 1:2 a1;");
        Reading.dueMachine("a+", "0:1 a1; 1:2 a1;");
        Reading.dueMachine("a?", "0:3 a1; 1:2;");
        Reading.dueMachine("a" + "*".repeat(199), "0:3 a1; 1:2 a1;");
        Reading.dueMachine("a" + "+".repeat(199), "0:1 a1; 1:2 a1;");
        Reading.dueMachine("a" + "?".repeat(199), "0:3 a1; 1:2;");
        Reading.dueMachine("a" + "?".repeat(198) + "+", "0:3 a1; 1:2 a1;");
        Reading.dueMachine("a" + "+".repeat(198) + "?", "0:3 a1; 1:2 a1;");
        Reading.dueMachine("a*+?", "0:3 a1; 1:2 a1;");
        Reading.dueMachine("[a]+*b", "0:1 a1 b2; 1:0 a1 b2; 2:2;");
        Reading.dueMachine("(a)+*b", "0:1 a1 b2; 1:0 a1 b2; 2:2;");
        Reading.dueMachine(".??", "0:3 a1 b1 c1 d1 e1 f1 g1 h1; 1:2;");
    }

    private static void signsWithoutAtom() {
        for (String sign : new String[] {"*", "+", "?"}) {
            Reading.dueFault(sign, 1, 0);
            Reading.dueFault(sign + "a", 1, 0);
            Reading.dueFault("|" + sign, 1, 1);
            Reading.dueFault("a|" + sign, 1, 2);
            Reading.dueFault("a*|" + sign, 1, 3);
            Reading.dueFault("(" + sign + ")", 1, 1);
            Reading.dueFault("a(" + sign + ")", 1, 2);
            Reading.dueFault("(a)|(b|" + sign + ")", 1, 7);
            Reading.dueFault("()(" + sign, 1, 3);
            Reading.dueFault("|".repeat(199) + sign, 1, 199);
            Reading.dueMachine("()" + sign, "0:3;");
        }
    }

    private static void point() {
        Reading.dueLetters(".", "abcdefgh");
        Reading.dueMachine(".a", "0:1 a1 b1 c1 d1 e1 f1 g1 h1; 1:0 a2; 2:2;");
        Reading.dueFault("[.]", 1, 1);
    }

    private static void noneOneAndTwoNots() {
        Reading.dueLetters("[c]", "c");
        Reading.dueLetters("[^c]", "abdefgh");
        Reading.dueFault("[^^c]", 1, 2);
        Reading.dueFault("[c^]", 1, 2);
        Reading.dueFault("[c-d^]", 1, 4);
        Reading.dueFault("[c-^d]", 1, 3);
        Reading.dueFault("^", 1, 0);
        Reading.dueFault("a^", 1, 1);
        // Each [ ] has a ^ of its own.
        Reading.dueMachine("[^b-h][a]", "0:1 a1; 1:0 a2; 2:2;");
        Reading.dueMachine("[a][^b-h]", "0:1 a1; 1:0 a2; 2:2;");
    }

    private static void noneToManyLettersInBrackets() {
        Reading.dueFault("[]", 1, 1);
        Reading.dueFault("[^]", 1, 2);
        Reading.dueLetters("[a]", "a");
        Reading.dueLetters("[ab]", "ab");
        Reading.dueLetters("[ba]", "ab");
        Reading.dueLetters("[aa]", "a");
        Reading.dueLetters("[hgfedcba]", "abcdefgh");
        Reading.dueLetters("[^bb]", "acdefgh");
        Reading.dueLetters("[" + "ag".repeat(99) + "]", "ag");
        Reading.dueLetters("[^" + "a-c".repeat(65) + "hh]", "defg");
    }

    private static void rangesCutShort() {
        Reading.dueFault("[-]", 1, 1);
        Reading.dueFault("[-a]", 1, 1);
        Reading.dueFault("[^-a]", 1, 2);
        Reading.dueFault("[a-]", 1, 3);
        Reading.dueFault("[a--c]", 1, 3);
        Reading.dueFault("[a-b-c]", 1, 4);
        Reading.dueFault("[a-b-]", 1, 4);
        Reading.dueFault("a-b", 1, 1);
        Reading.dueLetters("[a-bd-e]", "abde");
        Reading.dueLetters("[ca-b]", "abc");
        Reading.dueLetters("[a-bc]", "abc");
        Reading.dueLetters("[ac-eg]", "acdeg");
        Reading.dueLetters("[c-ea-a]", "acde");
        Reading.dueLetters("[a-db-c]", "abcd");
    }

    private static String lettersOf(int first, int second, boolean inside) {
        StringBuilder letters = new StringBuilder();
        for (int letter = 0; letter < 8; letter++) {
            if ((letter >= first && letter <= second) == inside) {
                letters.append((char) ('a' + letter));
            }
        }
        return letters.toString();
    }

    private static String range(String before, int first, int second) {
        return before + (char) ('a' + first) + '-' + (char) ('a' + second) + ']';
    }

    private static void everyRange() {
        for (int first = 0; first < 8; first++) {
            for (int second = first; second < 8; second++) {
                Reading.dueLetters(range("[", first, second), lettersOf(first, second, true));
            }
        }
    }

    private static void everyRangeThatIsLess() {
        for (int first = 0; first < 8; first++) {
            for (int second = 0; second < first; second++) {
                Reading.dueFault(range("[", first, second), 4, 3);
                Reading.dueFault(range("[^", first, second), 4, 4);
            }
        }
    }

    private static void everyRangeWithNot() {
        for (int first = 0; first < 8; first++) {
            for (int second = first; second < 8; second++) {
                Reading.dueLetters(range("[^", first, second), lettersOf(first, second, false));
            }
        }
        Reading.dueMachine("[^a-h]", "0:1; 1:2;");
    }

    private static void parentheses() {
        Reading.dueMachine("()", "0:3;");
        Reading.dueMachine("(a)", "0:1 a1; 1:2;");
        Reading.dueMachine("((a))", "0:1 a1; 1:2;");
        Reading.dueMachine("(a|b)c", "0:1 a1 b2; 1:0 c3; 2:0 c3; 3:2;");
        Reading.dueMachine("(".repeat(20) + "a" + ")".repeat(20), "0:1 a1; 1:2;");
        Reading.dueFault(")", 1, 0);
        Reading.dueFault("())", 1, 2);
        Reading.dueFault("(", 1, 1);
        Reading.dueFault("(()", 1, 3);
        Reading.dueFault("[(a)]", 1, 1);
        Reading.dueFault("(a[)]", 1, 3);
    }

    private static void state0IsTheStart() {
        for (String text : new String[] {"", "a", "a*", "(a|b)*c", "[^a-h]", "..........."}) {
            WordMachines x = new WordMachines();
            int states = Ask.read(x, 0, text);
            for (int state = 0; state < states; state++) {
                Check.due("state " + state + " of " + text + " is a start", x.arcs(0, state, 8) & 1, state == 0 ? 1 : 0);
            }
        }
    }

    private static void statesInOrder() {
        Reading.dueMachine("h[a-b]a", "0:1 h1; 1:0 a2 b2; 2:0 a3; 3:2;");
        Reading.dueMachine("(c|b)a", "0:1 b2 c1; 1:0 a3; 2:0 a3; 3:2;");
        Reading.dueStates("a.[b](c)[d-e]", 6);
        Reading.dueStates("[abcdefgh]", 2);
        Reading.dueStates("[a-h]", 2);
        Reading.dueStates("[^a-h]", 2);
        WordMachines x = new WordMachines();
        Ask.read(x, 0, "ab".repeat(11) + "h");
        for (int state = 0; state < 22; state++) {
            Check.due("arcs from " + state, x.arcs(0, state, state % 2), 1 << state + 1);
        }
        Check.due("arcs to the last one", x.arcs(0, 22, 7), 1 << 23);
        Check.due("the last one is the end", x.arcs(0, 23, 8), 2);
    }

    private static void justItsLetters() {
        Reading.dueMachine("[ab][bc]", "0:1 a1 b1; 1:0 b2 c2; 2:2;");
        Reading.dueMachine("(a|[^b-h])*", "0:3 a1 a2; 1:2 a1 a2; 2:2 a1 a2;");
        Reading.dueMachine("[^a-h]*b", "0:1 b2; 1:0 b2; 2:2;");
    }

    private static void atomAlone() {
        for (String atom : new String[] {"a", ".", "[b]", "[^b]", "[^a-h]"}) {
            WordMachines x = new WordMachines();
            Check.due("states of " + atom, Ask.read(x, 0, atom), 2);
            Check.due("the empty word, by " + atom, Ask.takes(x, 0, ""), false);
            Check.due("the end of " + atom, x.arcs(0, 1, 8), 2);
            for (int letter = 0; letter < 8; letter++) {
                Check.due("arcs behind " + atom, x.arcs(0, 1, letter), 0);
            }
        }
    }

    private static void dueEmptyWord(String text, boolean want) {
        WordMachines x = new WordMachines();
        Ask.read(x, 0, text);
        Check.due("the empty word belongs to " + text, Ask.takes(x, 0, ""), want);
    }

    private static void rowBelongs() {
        dueEmptyWord("ab", false);
        dueEmptyWord("a?b", false);
        dueEmptyWord("ab?", false);
        dueEmptyWord("a?b?", true);
        dueEmptyWord("a?b?c", false);
        dueEmptyWord("a?bc?", false);
        dueEmptyWord("ab?c?", false);
        dueEmptyWord("a?b*()", true);
    }

    private static void rowFirsts() {
        Reading.dueMachine("ab", "0:1 a1; 1:0 b2; 2:2;");
        Reading.dueMachine("a?b", "0:1 a1 b2; 1:0 b2; 2:2;");
        Reading.dueMachine("a?b?c", "0:1 a1 b2 c3; 1:0 b2 c3; 2:0 c3; 3:2;");
        Reading.dueMachine("ab?c", "0:1 a1; 1:0 b2 c3; 2:0 c3; 3:2;");
        Reading.dueMachine("(a|)(b|)c", "0:1 a1 b2 c3; 1:0 b2 c3; 2:0 c3; 3:2;");
    }

    private static void rowLasts() {
        Reading.dueMachine("ab?", "0:1 a1; 1:2 b2; 2:2;");
        Reading.dueMachine("ab?c?", "0:1 a1; 1:2 b2 c3; 2:2 c3; 3:2;");
        Reading.dueMachine("abc?", "0:1 a1; 1:0 b2; 2:2 c3; 3:2;");
        Reading.dueMachine("a?b", "0:1 a1 b2; 1:0 b2; 2:2;");
    }

    private static void rowArcs() {
        Reading.dueMachine("(a|b)(c|d)", "0:1 a1 b2; 1:0 c3 d4; 2:0 c3 d4; 3:2; 4:2;");
        Reading.dueMachine("(ab)(cd)", "0:1 a1; 1:0 b2; 2:0 c3; 3:0 d4; 4:2;");
        Reading.dueMachine("a()b", "0:1 a1; 1:0 b2; 2:2;");
        WordMachines x = new WordMachines();
        Check.due("a row of 23 that all may be away", Ask.read(x, 0, "a?".repeat(23)), 24);
        for (int state = 0; state < 24; state++) {
            int later = 0xffffff & -2 << state;
            Check.due("arcs from " + state + " to all later ones", x.arcs(0, state, 0), later);
        }
    }

    private static void partsBelong() {
        dueEmptyWord("a|b", false);
        dueEmptyWord("a?|b", true);
        dueEmptyWord("a|b?", true);
        dueEmptyWord("a|b|c?|d", true);
        dueEmptyWord("a|b|c|d", false);
        dueEmptyWord("a||b", true);
        dueEmptyWord("(a|b)", false);
        dueEmptyWord("(a|)", true);
        dueEmptyWord("(|a)b", false);
    }

    private static void partsFirstsAndLasts() {
        Reading.dueMachine("ab|cd", "0:1 a1 c3; 1:0 b2; 2:2; 3:0 d4; 4:2;");
        Reading.dueMachine("a|bc|d", "0:1 a1 b2 d4; 1:2; 2:0 c3; 3:2; 4:2;");
        Reading.dueMachine("(ab|c)d", "0:1 a1 c3; 1:0 b2; 2:0 d4; 3:0 d4; 4:2;");
        Reading.dueMachine("d(ab|c)", "0:1 d1; 1:0 a2 c4; 2:0 b3; 3:2; 4:2;");
    }

    private static void signsBelong() {
        dueEmptyWord("a*", true);
        dueEmptyWord("a?", true);
        dueEmptyWord("a+", false);
        dueEmptyWord("(a?)+", true);
        dueEmptyWord("(a|)+", true);
        dueEmptyWord("a++", false);
        dueEmptyWord("a+*", true);
        dueEmptyWord("a*+", true);
        dueEmptyWord("a?+", true);
        dueEmptyWord("(ab)+", false);
        dueEmptyWord("()+", true);
        dueEmptyWord("[^a-h]+", false);
        dueEmptyWord("[^a-h]*", true);
    }

    private static void signsArcs() {
        Reading.dueMachine("(ab)*", "0:3 a1; 1:0 b2; 2:2 a1;");
        Reading.dueMachine("(ab)+", "0:1 a1; 1:0 b2; 2:2 a1;");
        Reading.dueMachine("(ab)?", "0:3 a1; 1:0 b2; 2:2;");
        Reading.dueMachine("(a|b)*", "0:3 a1 b2; 1:2 a1 b2; 2:2 a1 b2;");
        Reading.dueMachine("(a?b?)+", "0:3 a1 b2; 1:2 a1 b2; 2:2 a1 b2;");
        Reading.dueMachine("(a?b?)?", "0:3 a1 b2; 1:2 b2; 2:2;");
        // The sign is of the last thing alone.
        Reading.dueMachine("ab*", "0:1 a1; 1:2 b2; 2:2 b2;");
        Reading.dueMachine("ab+", "0:1 a1; 1:0 b2; 2:2 b2;");
        Reading.dueMachine("a|b*", "0:3 a1 b2; 1:2; 2:2 b2;");
        WordMachines x = new WordMachines();
        Ask.read(x, 0, "(" + "a|".repeat(22) + "a)*");
        for (int state = 0; state < 24; state++) {
            Check.due("arcs from " + state + " to all but 0", x.arcs(0, state, 0), 0xfffffe);
        }
    }

    private static void nothingAtAll() {
        for (String text : new String[] {"", "()", "(())", "()()", "(|)", "()|()", "()*", "()+", "()?", "(|)*+?"}) {
            Reading.dueMachine(text, "0:3;");
        }
        Reading.dueMachine("()a()", "0:1 a1; 1:2;");
        Reading.dueMachine("(()a)*", "0:3 a1; 1:2 a1;");
    }

    private static void arcsFromState0() {
        for (String text : new String[] {"a*", "(a|b)*c+", "(a*b*)*", ".+"}) {
            WordMachines x = new WordMachines();
            int states = Ask.read(x, 0, text);
            for (int state = 0; state < states; state++) {
                for (int letter = 0; letter < 8; letter++) {
                    Check.due("an arc to state 0 of " + text, x.arcs(0, state, letter) & 1, 0);
                }
            }
        }
        Reading.dueMachine("a?(b|c)d", "0:1 a1 b2 c3; 1:0 b2 c3; 2:0 d4; 3:0 d4; 4:2;");
    }

    private static void ends() {
        Reading.dueMachine("a(b|c)?", "0:1 a1; 1:2 b2 c3; 2:2; 3:2;");
        Reading.dueMachine("(a(b|c)?)?", "0:3 a1; 1:2 b2 c3; 2:2; 3:2;");
        Reading.dueMachine("a|", "0:3 a1; 1:2;");
        Reading.dueMachine("ab", "0:1 a1; 1:0 b2; 2:2;");
    }
}
