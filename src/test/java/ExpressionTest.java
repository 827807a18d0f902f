import java.util.Random;

/** Promises 4 to 6: read, fault, place. */
public final class ExpressionTest {
    public static void main(String[] args) {
        machinesOfExpressions();
        readKeepsTextAndOthers();
        readOverAnOlderMachine();
        letterSets();
        badBytes();
        badEnds();
        everyByteEverywhere();
        tooManyStates();
        tooManyOpen();
        badRanges();
        firstFaultCounts();
        faultAndPlaceAreOfTheLastRead();
        longTexts();
        sameWordsAsTheShape();
        Check.end();
    }

    private static void machinesOfExpressions() {
        Reading.dueMachine("", "0:3;");
        Reading.dueMachine("|", "0:3;");
        Reading.dueMachine("()", "0:3;");
        Reading.dueMachine("()*", "0:3;");
        Reading.dueMachine("(|)+?", "0:3;");
        Reading.dueMachine("((()))()", "0:3;");
        Reading.dueMachine("a", "0:1 a1; 1:2;");
        Reading.dueMachine("h", "0:1 h1; 1:2;");
        Reading.dueMachine(".", "0:1 a1 b1 c1 d1 e1 f1 g1 h1; 1:2;");
        Reading.dueMachine("a*", "0:3 a1; 1:2 a1;");
        Reading.dueMachine("a+", "0:1 a1; 1:2 a1;");
        Reading.dueMachine("a?", "0:3 a1; 1:2;");
        Reading.dueMachine("a+?", "0:3 a1; 1:2 a1;");
        Reading.dueMachine("a?+", "0:3 a1; 1:2 a1;");
        Reading.dueMachine("a**", "0:3 a1; 1:2 a1;");
        Reading.dueMachine("a??", "0:3 a1; 1:2;");
        Reading.dueMachine("ab", "0:1 a1; 1:0 b2; 2:2;");
        Reading.dueMachine("a|b", "0:1 a1 b2; 1:2; 2:2;");
        Reading.dueMachine("a|", "0:3 a1; 1:2;");
        Reading.dueMachine("|a", "0:3 a1; 1:2;");
        Reading.dueMachine("a||b", "0:3 a1 b2; 1:2; 2:2;");
        Reading.dueMachine("ab|c", "0:1 a1 c3; 1:0 b2; 2:2; 3:2;");
        Reading.dueMachine("a(b|c)", "0:1 a1; 1:0 b2 c3; 2:2; 3:2;");
        Reading.dueMachine("a()b", "0:1 a1; 1:0 b2; 2:2;");
        Reading.dueMachine("a?b?", "0:3 a1 b2; 1:2 b2; 2:2;");
        Reading.dueMachine("a?b", "0:1 a1 b2; 1:0 b2; 2:2;");
        Reading.dueMachine("ab?c", "0:1 a1; 1:0 b2 c3; 2:0 c3; 3:2;");
        Reading.dueMachine("ab?", "0:1 a1; 1:2 b2; 2:2;");
        Reading.dueMachine("(ab)*", "0:3 a1; 1:0 b2; 2:2 a1;");
        Reading.dueMachine("(ab)+", "0:1 a1; 1:0 b2; 2:2 a1;");
        Reading.dueMachine("(ab)?a", "0:1 a1 a3; 1:0 b2; 2:0 a3; 3:2;");
        Reading.dueMachine("(a|b)*ab", "0:1 a1 a3 b2; 1:0 a1 a3 b2; 2:0 a1 a3 b2; 3:0 b4; 4:2;");
        Reading.dueMachine("(a*b*)*", "0:3 a1 b2; 1:2 a1 b2; 2:2 a1 b2;");
        Reading.dueMachine("(a|)+b", "0:1 a1 b2; 1:0 a1 b2; 2:2;");
        Reading.dueMachine("a(b(c)*)+", "0:1 a1; 1:0 b2; 2:2 b2 c3; 3:2 b2 c3;");
    }

    private static void readKeepsTextAndOthers() {
        WordMachines x = new WordMachines();
        Ask.read(x, 0, "a*b");
        String machine = Ask.machine(x, 0);
        for (int k = 1; k < 8; k++) {
            Check.due("read once more into " + k, x.read(k), 3);
            Check.due("machine " + k, Ask.machine(x, k), machine);
        }
        Check.due("the text stays", x.wipe(), 3);
        x.read(5);
        Check.due("machine 5 is new", Ask.machine(x, 5), "0:3;");
        Check.due("machine 4 stays", Ask.machine(x, 4), machine);
    }

    private static void readOverAnOlderMachine() {
        WordMachines x = new WordMachines();
        Ask.read(x, 0, ".*.*.*.*.*.*.*.*");
        Ask.read(x, 0, "ab");
        Check.due("a smaller machine over a larger one", Ask.machine(x, 0), "0:1 a1; 1:0 b2; 2:2;");
        x.blank(0, 24);
        x.arc(0, 23, 7, 23, true);
        x.mark(0, 23, 3);
        Check.due("read over a told machine", x.read(0), 3);
        Check.due("the told one is gone", Ask.machine(x, 0), "0:1 a1; 1:0 b2; 2:2;");
        x.either(1, 0, 0);
        Check.due("nothing of the older machines is left", Ask.machine(x, 1),
                "0:1 a1; 1:0 b2; 2:2; 3:1 a4; 4:0 b5; 5:2;");
    }

    private static void letterSets() {
        Reading.dueLetters("[a]", "a");
        Reading.dueLetters("[h]", "h");
        Reading.dueLetters("[ah]", "ah");
        Reading.dueLetters("[aa]", "a");
        Reading.dueLetters("[ha]", "ah");
        Reading.dueLetters("[a-h]", "abcdefgh");
        Reading.dueLetters("[c-e]", "cde");
        Reading.dueLetters("[c-c]", "c");
        Reading.dueLetters("[ac-eh]", "acdeh");
        Reading.dueLetters("[a-bd-eh]", "abdeh");
        Reading.dueLetters("[b-dc-f]", "bcdef");
        Reading.dueLetters("[fa-c]", "abcf");
        Reading.dueLetters("[^a]", "bcdefgh");
        Reading.dueLetters("[^a-g]", "h");
        Reading.dueLetters("[^b-dfh]", "aeg");
        Reading.dueLetters("[^a-h]", "");
        Reading.dueMachine("[^a-h]", "0:1; 1:2;");
        Reading.dueMachine("[^a-h]?b", "0:1 b2; 1:0 b2; 2:2;");
        Reading.dueMachine("[^a][b]", "0:1 b1 c1 d1 e1 f1 g1 h1; 1:0 b2; 2:2;");
        Reading.dueMachine("[ab]*[^a-g]+", "0:1 a1 b1 h2; 1:0 a1 b1 h2; 2:2 h2;");
    }

    private static void badBytes() {
        for (String sign : new String[] {"*", "+", "?"}) {
            Reading.dueFault(sign, 1, 0);
            Reading.dueFault("a|" + sign, 1, 2);
            Reading.dueFault("(" + sign + ")", 1, 1);
            Reading.dueFault("(a)(" + sign + ")", 1, 4);
            Reading.dueFault("a(b|" + sign + ")", 1, 4);
        }
        for (String other : new String[] {")", "]", "^", "-", "{", "\\", "i", "`", "A", "H", " ", "\0", "\n", "0",
            "\u0080", "\u00e1", "\u00ff", "$", ","}) {
            Reading.dueFault(other, 1, 0);
            Reading.dueFault("a" + other, 1, 1);
            Reading.dueFault("a*" + other, 1, 2);
            Reading.dueFault("a|" + other, 1, 2);
            Reading.dueFault("()" + other, 1, 2);
            Reading.dueFault("[a]" + other, 1, 3);
        }
        Reading.dueFault("a))", 1, 1);
        Reading.dueFault("(a))", 1, 3);
        Reading.dueFault("[]", 1, 1);
        Reading.dueFault("[]a]", 1, 1);
        Reading.dueFault("[^]", 1, 2);
        Reading.dueFault("[^^a]", 1, 2);
        Reading.dueFault("[a^]", 1, 2);
        Reading.dueFault("[-a]", 1, 1);
        Reading.dueFault("[^-a]", 1, 2);
        Reading.dueFault("[a-]", 1, 3);
        Reading.dueFault("[a--b]", 1, 3);
        Reading.dueFault("[a-^]", 1, 3);
        Reading.dueFault("[a-b-c]", 1, 4);
        Reading.dueFault("[a-bc-d-e]", 1, 7);
        Reading.dueFault("[a-i]", 1, 3);
        Reading.dueFault("[i-a]", 1, 1);
        Reading.dueFault("[.]", 1, 1);
        Reading.dueFault("[[a]]", 1, 1);
        Reading.dueFault("[a[b]]", 1, 2);
        Reading.dueFault("[a|b]", 1, 2);
        Reading.dueFault("[a*]", 1, 2);
        Reading.dueFault("[(a)]", 1, 1);
        Reading.dueFault("[a]]", 1, 3);
        Reading.dueFault("[a b]", 1, 2);
    }

    private static void badEnds() {
        Reading.dueFault("(", 1, 1);
        Reading.dueFault("((a)", 1, 4);
        Reading.dueFault("(a|", 1, 3);
        Reading.dueFault("a(b*", 1, 4);
        Reading.dueFault("[", 1, 1);
        Reading.dueFault("[^", 1, 2);
        Reading.dueFault("[a", 1, 2);
        Reading.dueFault("[a-", 1, 3);
        Reading.dueFault("[a-b", 1, 4);
        Reading.dueFault("([a", 1, 3);
        Reading.dueFault("([a]", 1, 4);
    }

    /** Each byte behind each beginning, also against the slow parser. */
    private static void everyByteEverywhere() {
        String[] beginnings = {"", "a", "a*", "(", "(a", "a|", "(a|", "()",
            "[", "[^", "[c", "[c-", "[c-e", "[c-ef", "[c]"};
        NaiveMachines naive = new NaiveMachines();
        for (String beginning : beginnings) {
            for (int b = 0; b < 256; b++) {
                WordMachines x = new WordMachines();
                naive.text = beginning + (char) b;
                Check.due("read " + naive.text, Ask.read(x, 0, naive.text), naive.read(0));
                Check.due("fault of " + naive.text, x.fault(), naive.fault);
                Check.due("place of " + naive.text, x.place(), naive.place);
            }
        }
    }

    private static void tooManyStates() {
        WordMachines x = new WordMachines();
        String most = "a.[b]c*(d|e)?[^f-g].".repeat(2) + "a.[b]c*d(e)*[f]";
        Check.due("states of 23 atoms", Ask.read(x, 0, most), 24);
        Check.due("fault of 23 atoms", x.fault(), 0);
        Reading.dueFault(most + "a", 2, most.length());
        Reading.dueFault(most + "h*", 2, most.length());
        Reading.dueFault(most + ".", 2, most.length());
        Reading.dueFault(most + "[a]", 2, most.length());
        Reading.dueFault(most + "[", 2, most.length());
        Reading.dueFault(most + "[]", 2, most.length());
        Reading.dueFault(most + "(|()a", 2, most.length() + 4);
        Reading.dueFault(most + "i", 1, most.length());
        Reading.dueFault(most + "()|()*)a", 1, most.length() + 6);
        Check.due("no atoms behind 23", Ask.read(x, 0, most + "()|(|)*"), 24);
        Check.due("letters in [ ] are not counted", Ask.read(x, 0, "[" + "abcdefgh".repeat(10) + "]"), 2);
        Reading.dueFault("a".repeat(24), 2, 23);
        Reading.dueFault("a".repeat(200), 2, 23);
    }

    private static void tooManyOpen() {
        WordMachines x = new WordMachines();
        Check.due("20 open", Ask.read(x, 0, "(".repeat(20) + "a" + ")".repeat(20)), 2);
        Check.due("machine of 20 open", Ask.machine(x, 0), "0:1 a1; 1:2;");
        Check.due("20 open, twice", Ask.read(x, 0, ("(".repeat(20) + "a" + ")*".repeat(20)).repeat(2)), 3);
        Check.due("many that are not open at once", Ask.read(x, 0, "()".repeat(60)), 1);
        Reading.dueFault("(".repeat(21) + ")".repeat(21), 3, 20);
        Reading.dueFault("(".repeat(200), 3, 20);
        Reading.dueFault("(".repeat(20), 1, 20);
        Reading.dueFault("()(a)" + "(".repeat(21), 3, 25);
        Reading.dueFault("(".repeat(20) + ")" + "((", 3, 22);
        Check.due("the 20th again behind one that closed", Ask.read(x, 0, "(".repeat(20) + ")(a" + ")".repeat(20)), 2);
    }

    private static void badRanges() {
        Reading.dueFault("[b-a]", 4, 3);
        Reading.dueFault("[h-a]", 4, 3);
        Reading.dueFault("[^c-b]", 4, 4);
        Reading.dueFault("[a-cc-b]", 4, 6);
        Reading.dueFault("[ac-b]", 4, 4);
        Reading.dueFault("[b-a", 4, 3);
        Reading.dueFault("[b-ai", 4, 3);
        Reading.dueFault("ab([c-a])", 4, 6);
    }

    private static void firstFaultCounts() {
        Reading.dueFault("*" + "a".repeat(30), 1, 0);
        Reading.dueFault("a".repeat(24) + "*)", 2, 23);
        Reading.dueFault("[b-a]" + "a".repeat(30), 4, 3);
        Reading.dueFault("(".repeat(21) + "*", 3, 20);
        Reading.dueFault("a".repeat(23) + "(".repeat(21) + "a", 3, 43);
        Reading.dueFault("(".repeat(20) + "a".repeat(24), 2, 43);
        Reading.dueFault("a".repeat(22) + "[b-a]", 4, 25);
        Reading.dueFault("a".repeat(23) + "[b-a]", 2, 23);
    }

    private static void faultAndPlaceAreOfTheLastRead() {
        WordMachines x = new WordMachines();
        Ask.read(x, 0, "[b-a]");
        Ask.read(x, 0, "a)");
        Check.due("a later fault", x.fault(), 1);
        Check.due("a later place", x.place(), 1);
        x.fault();
        Check.due("place asked again", x.place(), 1);
        Check.dueThrow("read(8)", Check.INDEX, () -> x.read(8));
        Check.due("fault behind a read that threw", x.fault(), 1);
        Check.due("place behind a read that threw", x.place(), 1);
        Ask.read(x, 1, "a");
        Check.due("fault behind a good read", x.fault(), 0);
        Check.due("place behind a good read", x.place(), -1);
        Check.dueThrow("read(-1)", Check.INDEX, () -> x.read(-1));
        Check.due("fault behind both", x.fault(), 0);
    }

    private static void longTexts() {
        WordMachines x = new WordMachines();
        Check.due("199 stars", Ask.read(x, 0, "a" + "*".repeat(199)), 2);
        Check.due("machine of 199 stars", Ask.machine(x, 0), "0:3 a1; 1:2 a1;");
        Check.due("200 bars", Ask.read(x, 0, "|".repeat(200)), 1);
        Reading.dueFault("|".repeat(199) + "*", 1, 199);
        Reading.dueFault("|".repeat(199) + "(", 1, 200);
    }

    private static void sameWordsAsTheShape() {
        int readable = 0;
        for (int seed = 0; seed < 3000; seed++) {
            WordMachines x = new WordMachines();
            Random random = new Random(seed);
            Shape shape = Shape.byChance(random, 3);
            if (shape.text().length() > 200 || Ask.read(x, 0, shape.text()) == -1) {
                continue;
            }
            readable++;
            for (int t = 0; t < 20; t++) {
                String word = randomWord(random);
                Check.due(shape.text() + " takes " + word, Ask.takes(x, 0, word), shape.has(word));
            }
        }
        Check.due("enough shapes are readable", readable > 1000, true);
    }

    private static String randomWord(Random random) {
        StringBuilder word = new StringBuilder();
        for (int length = random.nextInt(7); length > 0; length--) {
            word.append((char) ('a' + random.nextInt(4)));
        }
        return word.toString();
    }
}
