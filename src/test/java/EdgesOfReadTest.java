/** The edges of FAULTS and of promises 4 to 6 (read, fault, place). */
public final class EdgesOfReadTest {
    public static void main(String[] args) {
        Check.terms("FAULTS, from the text's beginning on", EdgesOfReadTest::firstFaultCounts);
        Check.terms("1 a byte that can't come there (at it", EdgesOfReadTest::everyByteBehindEachBeginning);
        Check.terms("or at the end of the text)", EdgesOfReadTest::textsCutShort);
        Check.terms("2 the 24th of letters outside of [ ], points and [", EdgesOfReadTest::the23rdAtom);
        Check.terms("2 the 24th of letters outside of [ ], points and [ (at it)", EdgesOfReadTest::the24thAtom);
        Check.terms("2 the 24th of letters outside of [ ]", EdgesOfReadTest::lettersInBracketsAreNotCounted);
        Check.terms("3 the 21st ( that is open", EdgesOfReadTest::the20thOpen);
        Check.terms("3 the 21st ( that is open (at it)", EdgesOfReadTest::the21stOpen);
        Check.terms("3 the 21st ( that is open", EdgesOfReadTest::closedOnesAreNotCounted);
        Check.terms("4 a [ ] whose second letter is less than the first one (at the second one)",
                EdgesOfReadTest::secondLetterIsLess);

        Check.promise(4, "Machine k becomes that of the text", EdgesOfReadTest::readIntoEach);
        Check.promise(4, "Machine k becomes that of the text", EdgesOfReadTest::readOverAnOlderMachine);
        Check.promise(4, "Machine k becomes that of the text", EdgesOfReadTest::readChangesThatMachineAlone);
        Check.promise(4, "(which stays)", EdgesOfReadTest::textStays);
        Check.promise(4, "Answers how many states it has", EdgesOfReadTest::readAnswers1To24);
        Check.promise(4, "Machine k becomes that of the text", EdgesOfReadTest::readAsMuchAsThereMayBe);
        Check.promise(4, "NONE when there is a fault: the machine stays", EdgesOfReadTest::readNoneChangesNothing);
        Check.promise(4, "IndexOutOfBoundsException: there is no machine k", EdgesOfReadTest::readWrong);

        Check.promise(5, "or there was none", EdgesOfReadTest::faultWhenNew);
        Check.promise(5, "The fault that the last read() met, 1 to 4", EdgesOfReadTest::faults1To4);
        Check.promise(5, "0 when it met none", EdgesOfReadTest::faultAfterAGoodRead);
        Check.promise(5, "The fault that the last read() met", EdgesOfReadTest::faultOfTheLastRead);
        Check.promise(5, "The fault that the last read() met", EdgesOfReadTest::faultStays);

        Check.promise(6, "NONE when there is none", EdgesOfReadTest::placeWhenNoFault);
        Check.promise(6, "The place of that fault in the text", EdgesOfReadTest::places0To200);
        Check.promise(6, "The place of that fault in the text", EdgesOfReadTest::placeStays);
        Check.end();
    }

    private static void firstFaultCounts() {
        Reading.dueFault("*)", 1, 0);
        Reading.dueFault("a)*[b-a]", 1, 1);
        Reading.dueFault("[b-a])", 4, 3);
        Reading.dueFault("[b-a", 4, 3);
        Reading.dueFault("a".repeat(24) + ")", 2, 23);
        Reading.dueFault(")" + "a".repeat(24), 1, 0);
        Reading.dueFault("(".repeat(21) + "*", 3, 20);
        Reading.dueFault("(".repeat(20) + "*" + "(", 1, 20);
        Reading.dueFault("(".repeat(21) + "a".repeat(24), 3, 20);
        Reading.dueFault("a".repeat(24) + "(".repeat(21), 2, 23);
        Reading.dueFault("(".repeat(20) + "a".repeat(24) + "(", 2, 43);
        Reading.dueFault("a".repeat(23) + "(".repeat(21) + "a", 3, 43);
        Reading.dueFault("a".repeat(22) + "[b-a]a", 4, 25);
        Reading.dueFault("a".repeat(23) + "[b-a]", 2, 23);
        Reading.dueFault("a".repeat(23) + "[]", 2, 23);
    }

    private static final String LETTERS = "abcdefgh";

    private static void everyByteBehindEachBeginning() {
        for (String nothing : new String[] {"", "|", "a|", "a*|"}) {
            dueBytes(nothing, LETTERS + ".[(|");
        }
        for (String open : new String[] {"(", "(a|", "a((b)*|", "()("}) {
            dueBytes(open, LETTERS + ".[(|)");
        }
        for (String thing : new String[] {"a", "h", ".", "[a]", "[a-c]", "[^a]", "()", "(a)", "a*", "a+", "a?", "a*?"}) {
            dueBytes(thing, LETTERS + ".[(|*+?");
        }
        for (String openThing : new String[] {"(a", "(a*", "((a)", "(b|[c]"}) {
            dueBytes(openThing, LETTERS + ".[(|*+?)");
        }
        dueBytes("[", LETTERS + "^");
        dueBytes("[^", LETTERS);
        for (String letter : new String[] {"[a", "[^a", "[ab", "[a-ch", "([^a"}) {
            dueBytes(letter, LETTERS + "-]");
        }
        dueBytes("[a-", LETTERS);
        dueBytes("[^ca-", LETTERS);
        for (String range : new String[] {"[a-c", "[^a-c", "[ba-c", "[a-ab-c"}) {
            dueBytes(range, LETTERS + "]");
        }
    }

    /** Each of the 256 bytes behind a beginning without faults: those that may come are not at fault. */
    private static void dueBytes(String beginning, String may) {
        WordMachines x = new WordMachines();
        for (int b = 0; b < 256; b++) {
            // Six calls or less for each byte; an object is good for 512.
            if (b % 64 == 0) {
                x = new WordMachines();
            }
            Ask.read(x, 0, beginning + (char) b);
            boolean isFault = x.fault() == 1 && x.place() == beginning.length();
            Check.due("byte " + b + " behind " + beginning + " is a fault", isFault, may.indexOf(b) < 0);
        }
    }

    private static void textsCutShort() {
        for (String text : new String[] {"(", "((", "()(", "(a", "(a|", "(a*", "((a)", "a(b|c",
            "[", "[^", "[a", "[^a", "[a-", "[a-b", "[a-bc", "([a]", "([a", "a|(b[c-"}) {
            Reading.dueFault(text, 1, text.length());
        }
        Reading.dueFault("|".repeat(199) + "(", 1, 200);
        Reading.dueFault("[" + "a".repeat(199), 1, 200);
    }

    /** Letters, points and [ ], so many atoms, with all else between them. */
    private static String atoms(int count) {
        String[] kinds = {"a", ".*", "[b]", "()c+", "([d-f])?", "|", "[^abcdefgh]", "(.|h)"};
        int[] sizes = {1, 1, 1, 1, 1, 0, 1, 2};
        StringBuilder text = new StringBuilder();
        int size = 0;
        for (int kind = 0; size < count; kind = (kind + 1) % kinds.length) {
            if (size + sizes[kind] <= count) {
                text.append(kinds[kind]);
                size += sizes[kind];
            }
        }
        return text.toString();
    }

    private static void the23rdAtom() {
        for (String atom : new String[] {"a", "h", ".", "[a]", "[^a-c]"}) {
            Reading.dueStates(atom.repeat(23), 24);
            Reading.dueStates(atoms(22) + atom, 24);
        }
        Reading.dueStates(atoms(23) + "()|(|)*+?", 24);
        Reading.dueStates(atoms(22), 23);
    }

    private static void the24thAtom() {
        for (String atom : new String[] {"a", "h", ".", "[a]", "[^a-c]", "[", "[]", "[b-a]", "[i"}) {
            Reading.dueFault(atoms(23) + atom, 2, atoms(23).length());
            Reading.dueFault(atoms(23) + "()|(" + atom, 2, atoms(23).length() + 4);
        }
        Reading.dueFault("a".repeat(24), 2, 23);
        Reading.dueFault(".".repeat(200), 2, 23);
        Reading.dueFault("[a]".repeat(24), 2, 69);
        Reading.dueFault("(a)".repeat(24), 2, 70);
        Reading.dueFault(atoms(23) + "i", 1, atoms(23).length());
    }

    private static void lettersInBracketsAreNotCounted() {
        Reading.dueStates("[" + "a".repeat(198) + "]", 2);
        Reading.dueStates("[" + "a-h".repeat(66) + "]", 2);
        Reading.dueStates("[abcdefgh]".repeat(20), 21);
        Reading.dueStates("[ab-cd]".repeat(23), 24);
        Reading.dueStates("a".repeat(22) + "[abcdefghabcdefgh]", 24);
    }

    private static void the20thOpen() {
        Reading.dueStates("(".repeat(20) + ")".repeat(20), 1);
        Reading.dueStates("(".repeat(20) + "a" + ")".repeat(20), 2);
        Reading.dueMachine("(a".repeat(20) + ")".repeat(20), chainOfA());
        Reading.dueFault("(".repeat(20), 1, 20);
    }

    private static String chainOfA() {
        StringBuilder machine = new StringBuilder("0:1 a1;");
        for (int state = 1; state < 20; state++) {
            machine.append(" ").append(state).append(":0 a").append(state + 1).append(";");
        }
        return machine.append(" 20:2;").toString();
    }

    private static void the21stOpen() {
        Reading.dueFault("(".repeat(21) + ")".repeat(21), 3, 20);
        Reading.dueFault("(".repeat(21), 3, 20);
        Reading.dueFault("(".repeat(200), 3, 20);
        Reading.dueFault("a|" + "(|".repeat(21), 3, 42);
        Reading.dueFault("(a".repeat(20) + "(", 3, 40);
    }

    private static void closedOnesAreNotCounted() {
        Reading.dueStates("()".repeat(100), 1);
        Reading.dueStates("(())".repeat(50), 1);
        Reading.dueStates("(".repeat(20) + ")()".repeat(19) + ")", 1);
        Reading.dueStates("(".repeat(20) + ")(" + ")".repeat(20), 1);
        Reading.dueFault("(".repeat(20) + ")((", 3, 22);
        Reading.dueFault("()".repeat(20) + "(".repeat(21), 3, 60);
        // A ( in [ ] is none.
        Reading.dueFault("(".repeat(20) + "[(", 1, 21);
    }

    private static void secondLetterIsLess() {
        Reading.dueFault("[b-a]", 4, 3);
        Reading.dueFault("[h-a]", 4, 3);
        Reading.dueFault("[h-g]", 4, 3);
        Reading.dueFault("[^b-a]", 4, 4);
        Reading.dueFault("[a-hb-a]", 4, 6);
        Reading.dueFault("[ab-a]", 4, 4);
        Reading.dueFault("a([c-b])", 4, 5);
        Reading.dueFault("[b-a", 4, 3);
        Reading.dueFault("|".repeat(196) + "[b-a", 4, 199);
        Reading.dueLetters("[a-a]", "a");
        Reading.dueLetters("[h-h]", "h");
        // These are two letters, and no letter - letter.
        Reading.dueLetters("[ba]", "ab");
    }

    private static void readIntoEach() {
        for (int k = 0; k <= 7; k++) {
            WordMachines x = new WordMachines();
            Ask.setText(x, "ab?");
            Check.due("read into " + k, x.read(k), 3);
            for (int other = 0; other <= 7; other++) {
                Check.due("machine " + other, Ask.machine(x, other), other == k ? "0:1 a1; 1:2 b2; 2:2;" : "0:0;");
            }
        }
    }

    private static void readOverAnOlderMachine() {
        WordMachines x = new WordMachines();
        Ask.read(x, 0, "(" + ".|".repeat(22) + ".)*");
        Check.due("a smaller one", Ask.read(x, 0, "a"), 2);
        Check.due("states", x.states(0), 2);
        Check.due("machine", Ask.machine(x, 0), "0:1 a1; 1:2;");
        Check.dueThrow("state 2", Check.INDEX, () -> x.arcs(0, 2, 0));
        Check.due("a larger one", Ask.read(x, 0, "a".repeat(23)), 24);
        Check.due("its last arc", x.arcs(0, 22, 0), 1 << 23);
        Check.due("nothing of the first one", x.arcs(0, 22, 1), 0);
        Check.due("the least one", Ask.read(x, 0, ""), 1);
        Check.due("machine of the least one", Ask.machine(x, 0), "0:3;");
    }

    private static void readChangesThatMachineAlone() {
        Scene scene = new Scene(() -> {
            WordMachines x = Tell.rich();
            x.read(7);
            return x;
        });
        for (int k = 0; k <= 7; k++) {
            int machine = k;
            scene.dueChangeOfMachineAlone("read(" + k + ")", k, x -> x.read(machine));
        }
    }

    private static void textStays() {
        for (String text : new String[] {"", "a", "(a|b)*", "a" + "*".repeat(199)}) {
            WordMachines x = new WordMachines();
            int states = Ask.read(x, 0, text);
            Check.due("read " + text + " again", x.read(1), states);
            Check.due("machine of " + text + " again", Ask.machine(x, 1), Ask.machine(x, 0));
            Check.due("wipe " + text, x.wipe(), text.length());
        }
        WordMachines x = new WordMachines();
        Check.due("read (a", Ask.read(x, 0, "(a"), -1);
        x.feed(1, ')');
        Check.due("read (a)", x.read(0), 2);
        Check.due("read (a) again", x.read(1), 2);
        Check.due("wipe (a)", x.wipe(), 3);
    }

    private static void readAnswers1To24() {
        for (int atoms = 0; atoms <= 23; atoms++) {
            WordMachines x = new WordMachines();
            Check.due("read " + atoms + " letters", Ask.read(x, 5, "a".repeat(atoms)), atoms + 1);
            Check.due("states", x.states(5), atoms + 1);
        }
        Reading.dueFault("a".repeat(24), 2, 23);
    }

    /** 200 bytes, 20 open, 23 atoms, all of which can follow one another. */
    private static void readAsMuchAsThereMayBe() {
        String text = "(".repeat(20) + "a|".repeat(22) + "a" + ")*".repeat(20) + "?".repeat(95);
        WordMachines x = new WordMachines();
        Check.due("bytes", text.length(), 200);
        Check.due("read", Ask.read(x, 0, text), 24);
        for (int state = 0; state < 24; state++) {
            Check.due("arcs from " + state, x.arcs(0, state, 0), 0xfffffe);
            Check.due("marks of " + state, x.arcs(0, state, 8), state == 0 ? 3 : 2);
        }
        Check.due("wipe", x.wipe(), 200);
    }

    private static Scene withText(String text) {
        return new Scene(() -> {
            WordMachines x = Tell.rich();
            Ask.setText(x, text);
            return x;
        });
    }

    private static void readNoneChangesNothing() {
        String[] texts = {"ab)", "a".repeat(24), "(".repeat(21), "[b-a]", "(ab", "[a", "ab*" + "|".repeat(196) + "*"};
        for (String text : texts) {
            Scene scene = withText(text);
            for (int k = 0; k <= 7; k++) {
                int machine = k;
                scene.dueNoneOfRead("read(" + k + ") of " + text, x -> x.read(machine));
            }
        }
    }

    private static void readWrong() {
        for (String text : new String[] {"", "a[b-d]*|(c.)?", "ab)", "[b-a]", "a".repeat(24)}) {
            Scene scene = withText(text);
            for (int k : Tell.NO_MACHINES) {
                scene.dueThrow("read(" + k + ") of " + text, Check.INDEX, x -> x.read(k));
            }
        }
    }

    private static void faultWhenNew() {
        WordMachines x = new WordMachines();
        Check.due("fault", x.fault(), 0);
        x.feed(2, Ask.packed("*)"));
        Check.due("fault before the first read", x.fault(), 0);
        Check.dueThrow("read(8)", Check.INDEX, () -> x.read(8));
        Check.due("fault behind a read that threw", x.fault(), 0);
    }

    private static void dueFaultAlone(String text, int want) {
        WordMachines x = new WordMachines();
        Ask.read(x, 0, text);
        Check.due("fault of " + text, x.fault(), want);
        Check.due("fault of " + text + ", asked again", x.fault(), want);
    }

    private static void faults1To4() {
        dueFaultAlone(")", 1);
        dueFaultAlone("(", 1);
        dueFaultAlone("a".repeat(24), 2);
        dueFaultAlone("(".repeat(21), 3);
        dueFaultAlone("[b-a]", 4);
    }

    private static void faultAfterAGoodRead() {
        for (String bad : new String[] {")", "(", "a".repeat(24), "(".repeat(21), "[b-a]"}) {
            WordMachines x = new WordMachines();
            Ask.read(x, 0, bad);
            Ask.read(x, 1, "");
            Check.due("fault of the empty text behind " + bad, x.fault(), 0);
            Ask.read(x, 0, bad);
            Ask.read(x, 0, "a".repeat(23));
            Check.due("fault of 23 letters behind " + bad, x.fault(), 0);
        }
    }

    private static void faultOfTheLastRead() {
        WordMachines x = new WordMachines();
        Ask.read(x, 0, "[b-a]");
        Ask.read(x, 1, "(".repeat(21));
        Check.due("fault of the second", x.fault(), 3);
        Ask.read(x, 0, "a".repeat(24));
        Check.due("fault of the third", x.fault(), 2);
        Ask.read(x, 0, "a)");
        Check.due("fault of the fourth", x.fault(), 1);
        Ask.read(x, 0, "a");
        Check.due("fault of the fifth", x.fault(), 0);
        Ask.read(x, 0, "[b-a]");
        Check.due("fault of the sixth", x.fault(), 4);
    }

    private static WordMachines withFault() {
        WordMachines x = new WordMachines();
        Ask.read(x, 0, "ab[d-c]");
        return x;
    }

    /** Calls that are no read(), and reads that throw. */
    private static void callOthers(WordMachines x) {
        x.takes(0);
        x.wipe();
        x.feed(1, 'a');
        x.blank(1, 3);
        x.mark(1, 0, 3);
        x.arc(1, 0, 0, 0, true);
        x.turn(2, 1);
        x.either(2, 1, 1);
        x.both(2, 1, 1);
        x.within(1, 0);
        x.words(1, 3);
        x.sets(1);
        x.rests(1);
        Check.thrownBy(() -> x.read(8));
        Check.thrownBy(() -> x.read(-1));
        Check.thrownBy(() -> x.feed(9, 0));
    }

    private static void faultStays() {
        WordMachines x = withFault();
        callOthers(x);
        Check.due("fault through other calls", x.fault(), 4);
        x.read(0);
        Check.due("fault of the read of what is there now", x.fault(), 0);
        x.feed(1, ')');
        callOthers(x);
        Check.due("no fault through other calls", x.fault(), 0);
    }

    private static void placeWhenNoFault() {
        WordMachines x = new WordMachines();
        Check.due("place when new", x.place(), -1);
        x.feed(1, ')');
        Check.due("place before the first read", x.place(), -1);
        x.read(0);
        Check.due("place of the fault", x.place(), 0);
        Ask.read(x, 0, "a");
        Check.due("place behind a good read", x.place(), -1);
        Ask.read(x, 0, "");
        Check.due("place behind a read of nothing", x.place(), -1);
        callOthers(x);
        Check.due("place through other calls", x.place(), -1);
    }

    private static void places0To200() {
        for (int place = 0; place <= 199; place++) {
            WordMachines x = new WordMachines();
            Ask.read(x, 0, "|".repeat(place) + ")" + "|".repeat(199 - place));
            Check.due("place of ) at " + place, x.place(), place);
        }
        for (int size = 1; size <= 200; size++) {
            WordMachines x = new WordMachines();
            Ask.read(x, 0, "|".repeat(size - 1) + "(");
            Check.due("place of the end of " + size, x.place(), size);
        }
    }

    private static void placeStays() {
        WordMachines x = withFault();
        Check.due("place", x.place(), 5);
        callOthers(x);
        Check.due("place through other calls, with a shorter text", x.place(), 5);
        Check.due("place asked again", x.place(), 5);
        x.read(0);
        Check.due("place of the read of what is there now", x.place(), -1);
    }
}
