/** The edges of promises 12 to 14 (turn, either, both). */
public final class EdgesOfMadeTest {
    private static final String ONE = "0:1 a0 a1; 1:2 b0;";
    private static final String OTHER = "0:3 a1 a2; 1:0 h1; 2:2 b0;";
    private static final String TURNED_ONE = "0:2 a0 b1; 1:1 a0;";
    private static final String ONE_OTHER = "0:1 a0 a1; 1:2 b0; 2:3 a3 a4; 3:0 h3; 4:2 b2;";
    private static final String ONE_ONE = "0:1 a0 a1; 1:2 b0; 2:1 a2 a3; 3:2 b2;";
    private static final String PAIRS = "0:1 a1 a2 a4 a5; 1:0; 2:0; 3:2; 4:0; 5:2 b0;";
    private static final String PAIRS_OF_ONE = "0:1 a0 a1 a2 a3; 1:0; 2:0; 3:2 b0;";

    public static void main(String[] args) {
        Check.promise(12, "with all arcs the other way, starts as ends and ends as starts", EdgesOfMadeTest::turned);
        Check.promise(12, "starts as ends and ends as starts", EdgesOfMadeTest::turnedMarks);
        Check.promise(12, "Machine k becomes machine i", EdgesOfMadeTest::turnedInItsPlace);
        Check.promise(12, "Machine k becomes machine i", EdgesOfMadeTest::turnedOverAnOlderMachine);
        Check.promise(12, "with all arcs the other way", EdgesOfMadeTest::turned1And24States);
        Check.promise(12, "with all arcs the other way", EdgesOfMadeTest::turnedWithAllArcs);
        Check.promise(12, "Machine k becomes machine i", EdgesOfMadeTest::turnChangesThatMachineAlone);
        Check.promise(12, "IndexOutOfBoundsException: there is no machine k or i", EdgesOfMadeTest::turnWrong);

        Check.promise(13, "both i and j beside one another (j's states behind i's)", EdgesOfMadeTest::beside);
        Check.promise(13, "Machine k becomes both i and j", EdgesOfMadeTest::besideInTheirPlaces);
        Check.promise(13, "Machine k becomes both i and j", EdgesOfMadeTest::besideOverAnOlderMachine);
        Check.promise(13, "Answers how many states it has", EdgesOfMadeTest::eitherAnswers2To24);
        Check.promise(13, "(j's states behind i's)", EdgesOfMadeTest::besideWithState23);
        Check.promise(13, "NONE when there would be more than 24", EdgesOfMadeTest::eitherNone);
        Check.promise(13, "answers NONE, changes nothing", EdgesOfMadeTest::eitherNoneChangesNothing);
        Check.promise(13, "Machine k becomes both i and j", EdgesOfMadeTest::eitherChangesThatMachineAlone);
        Check.promise(13, "IndexOutOfBoundsException: there is no machine k, i or j", EdgesOfMadeTest::eitherWrong);
        Check.promise(13, "IndexOutOfBoundsException: there is no machine k, i or j",
                EdgesOfMadeTest::eitherWrongBeforeNone);

        Check.promise(14, "state x and y has the number x times j's states, and y", EdgesOfMadeTest::pairs);
        Check.promise(14, "it is a start or end if both are", EdgesOfMadeTest::pairsMarks);
        Check.promise(14, "arcs lead as both do", EdgesOfMadeTest::pairsArcs);
        Check.promise(14, "Machine k becomes one of pairs", EdgesOfMadeTest::pairsInTheirPlaces);
        Check.promise(14, "Machine k becomes one of pairs", EdgesOfMadeTest::pairsOverAnOlderMachine);
        Check.promise(14, "Answers how many states it has", EdgesOfMadeTest::bothAnswers1To24);
        Check.promise(14, "the number x times j's states, and y", EdgesOfMadeTest::pairsWithState23);
        Check.promise(14, "arcs lead as both do", EdgesOfMadeTest::pairsWithAllArcs);
        Check.promise(14, "NONE when there would be more than 24", EdgesOfMadeTest::bothNone);
        Check.promise(14, "answers NONE, changes nothing", EdgesOfMadeTest::bothNoneChangesNothing);
        Check.promise(14, "Machine k becomes one of pairs", EdgesOfMadeTest::bothChangesThatMachineAlone);
        Check.promise(14, "IndexOutOfBoundsException: there is no machine k, i or j", EdgesOfMadeTest::bothWrong);
        Check.promise(14, "IndexOutOfBoundsException: there is no machine k, i or j",
                EdgesOfMadeTest::bothWrongBeforeNone);
        Check.end();
    }

    private static WordMachines withTwo() {
        WordMachines x = new WordMachines();
        x.blank(0, 2);
        x.mark(0, 0, 1);
        x.mark(0, 1, 2);
        x.arc(0, 0, 0, 0, true);
        x.arc(0, 0, 0, 1, true);
        x.arc(0, 1, 1, 0, true);
        x.blank(7, 3);
        x.mark(7, 0, 3);
        x.mark(7, 2, 2);
        x.arc(7, 0, 0, 1, true);
        x.arc(7, 0, 0, 2, true);
        x.arc(7, 2, 1, 0, true);
        x.arc(7, 1, 7, 1, true);
        return x;
    }

    /** 24 states with all marks, and arcs from each with each letter, in the first letters. */
    private static void fill(WordMachines x, int k) {
        x.blank(k, 24);
        for (int state = 0; state < 24; state++) {
            x.mark(k, state, 3);
            x.arc(k, state, 0, state, true);
            x.arc(k, state, 1, 23 - state, true);
            x.arc(k, state, 7, (state + 1) % 24, true);
        }
    }

    private static void dueTwoStay(WordMachines x) {
        Check.due("machine i stays", Ask.machine(x, 0), ONE);
        Check.due("machine j stays", Ask.machine(x, 7), OTHER);
    }

    private static void turned() {
        WordMachines x = withTwo();
        x.turn(2, 0);
        Check.due("turned", Ask.machine(x, 2), TURNED_ONE);
        x.turn(3, 7);
        Check.due("turned other", Ask.machine(x, 3), "0:3 b2; 1:0 a0 h1; 2:1 a0;");
        dueTwoStay(x);
        x.turn(4, 2);
        Check.due("turned twice", Ask.machine(x, 4), ONE);
    }

    private static void turnedMarks() {
        WordMachines x = new WordMachines();
        x.blank(0, 4);
        for (int what = 0; what <= 3; what++) {
            x.mark(0, what, what);
        }
        x.turn(1, 0);
        Check.due("neither, start, end, both", Ask.machine(x, 1), "0:0; 1:2; 2:1; 3:3;");
    }

    private static void turnedInItsPlace() {
        WordMachines x = withTwo();
        x.turn(0, 0);
        Check.due("turned in its place", Ask.machine(x, 0), TURNED_ONE);
        x.turn(0, 0);
        Check.due("turned in its place twice", Ask.machine(x, 0), ONE);
        x.turn(7, 7);
        x.turn(7, 7);
        Check.due("the other one turned twice", Ask.machine(x, 7), OTHER);
    }

    private static void turnedOverAnOlderMachine() {
        WordMachines x = withTwo();
        fill(x, 1);
        x.turn(1, 0);
        Check.due("turned over an older one", Ask.machine(x, 1), TURNED_ONE);
        Check.due("its states", x.states(1), 2);
        x.either(1, 1, 1);
        Check.due("nothing of the older one", Ask.machine(x, 1), "0:2 a0 b1; 1:1 a0; 2:2 a2 b3; 3:1 a2;");
    }

    private static void turned1And24States() {
        WordMachines x = new WordMachines();
        x.turn(1, 0);
        Check.due("a new one turned", Ask.machine(x, 1), "0:0;");
        Tell.chain(x, 2, 24, 7);
        x.turn(3, 2);
        Check.due("states of 24 turned", x.states(3), 24);
        Check.due("the first one is the end", x.arcs(3, 0, 8), 2);
        Check.due("the last one is the start", x.arcs(3, 23, 8), 1);
        for (int state = 0; state < 24; state++) {
            Check.due("the arc from " + state, x.arcs(3, state, 7), state == 0 ? 0 : 1 << state - 1);
        }
    }

    /** Arcs from each of 24 states with each letter to all but state 0. */
    private static WordMachines withAllArcs() {
        WordMachines x = new WordMachines();
        Ask.read(x, 0, "(" + ".|".repeat(22) + ".)*");
        return x;
    }

    private static void turnedWithAllArcs() {
        WordMachines x = withAllArcs();
        x.turn(1, 0);
        for (int state = 0; state < 24; state++) {
            Check.due("marks of " + state, x.arcs(1, state, 8), state == 0 ? 3 : 1);
            for (int letter = 0; letter < 8; letter++) {
                Check.due("arcs from " + state + " with " + letter, x.arcs(1, state, letter), state == 0 ? 0 : 0xffffff);
            }
        }
    }

    private static void turnChangesThatMachineAlone() {
        Scene scene = new Scene(Tell::rich);
        scene.dueChangeOfMachineAlone("turn(7, 0)", 7, x -> x.turn(7, 0));
        scene.dueChangeOfMachineAlone("turn(0, 7)", 0, x -> x.turn(0, 7));
        scene.dueChangeOfMachineAlone("turn(3, 3)", 3, x -> x.turn(3, 3));
    }

    private static void turnWrong() {
        Scene scene = new Scene(Tell::rich);
        for (int k : Tell.NO_MACHINES) {
            scene.dueThrow("turn(" + k + ", 0)", Check.INDEX, x -> x.turn(k, 0));
            scene.dueThrow("turn(0, " + k + ")", Check.INDEX, x -> x.turn(0, k));
            scene.dueThrow("turn(" + k + ", " + k + ")", Check.INDEX, x -> x.turn(k, k));
        }
    }

    private static void beside() {
        WordMachines x = withTwo();
        x.either(2, 0, 7);
        Check.due("one, other", Ask.machine(x, 2), ONE_OTHER);
        x.either(3, 7, 0);
        Check.due("other, one", Ask.machine(x, 3), "0:3 a1 a2; 1:0 h1; 2:2 b0; 3:1 a3 a4; 4:2 b3;");
        x.either(4, 0, 0);
        Check.due("one, one", Ask.machine(x, 4), ONE_ONE);
        dueTwoStay(x);
    }

    private static void besideInTheirPlaces() {
        WordMachines x = withTwo();
        Check.due("into i", x.either(0, 0, 7), 5);
        Check.due("machine", Ask.machine(x, 0), ONE_OTHER);
        Check.due("j stays", Ask.machine(x, 7), OTHER);
        WordMachines y = withTwo();
        Check.due("into j", y.either(7, 0, 7), 5);
        Check.due("machine", Ask.machine(y, 7), ONE_OTHER);
        Check.due("i stays", Ask.machine(y, 0), ONE);
        WordMachines z = withTwo();
        Check.due("all in one place", z.either(0, 0, 0), 4);
        Check.due("machine", Ask.machine(z, 0), ONE_ONE);
    }

    private static void besideOverAnOlderMachine() {
        WordMachines x = withTwo();
        fill(x, 1);
        Check.due("either", x.either(1, 0, 7), 5);
        Check.due("machine", Ask.machine(x, 1), ONE_OTHER);
        x.turn(1, 1);
        x.turn(1, 1);
        Check.due("nothing of the older one", Ask.machine(x, 1), ONE_OTHER);
    }

    private static void eitherAnswers2To24() {
        for (int n = 1; n <= 23; n++) {
            WordMachines x = new WordMachines();
            x.blank(1, n);
            Check.due(n + " and 1", x.either(2, 1, 0), n + 1);
            Check.due("states", x.states(2), n + 1);
            x.blank(3, 24 - n);
            Check.due(n + " and " + (24 - n), x.either(4, 1, 3), 24);
            Check.due("states", x.states(4), 24);
        }
    }

    private static void besideWithState23() {
        for (int n = 1; n <= 23; n++) {
            WordMachines x = new WordMachines();
            Tell.chain(x, 1, n, 0);
            Tell.ring(x, 2, 24 - n, 7, 23 - n);
            x.either(3, 1, 2);
            Check.due("the last one of " + n + " and the others", x.arcs(3, 23, 8) & 2, 2);
            Check.due("its arc", x.arcs(3, 23, 7), 1 << n);
            Check.due("the last one of i", x.arcs(3, n - 1, 8) & 2, 2);
            Check.due("no arc from i to j", x.arcs(3, n - 1, 0), 0);
            Check.due("the first one of j", x.arcs(3, n, 8) & 1, 1);
        }
    }

    private static void eitherNone() {
        for (int n = 1; n <= 24; n++) {
            WordMachines x = new WordMachines();
            x.blank(1, n);
            x.blank(2, 25 - n);
            Check.due(n + " and " + (25 - n), x.either(3, 1, 2), -1);
            Check.due("the machine stays", x.states(3), 1);
            x.blank(4, 24);
            Check.due(n + " and 24", x.either(3, 1, 4), -1);
            Check.due("24 and " + n, x.either(3, 4, 1), -1);
        }
    }

    private static void eitherNoneChangesNothing() {
        Scene scene = new Scene(Tell::rich);
        for (int k = 0; k <= 7; k++) {
            int machine = k;
            scene.dueNone("either(" + k + ", 0, 7)", x -> x.either(machine, 0, 7));
            scene.dueNone("either(" + k + ", 7, 0)", x -> x.either(machine, 7, 0));
            scene.dueNone("either(" + k + ", 0, 0)", x -> x.either(machine, 0, 0));
        }
    }

    private static void eitherChangesThatMachineAlone() {
        Scene scene = new Scene(Tell::rich);
        scene.dueChangeOfMachineAlone("either(7, 1, 2)", 7, x -> x.either(7, 1, 2));
        scene.dueChangeOfMachineAlone("either(0, 2, 2)", 0, x -> x.either(0, 2, 2));
        scene.dueChangeOfMachineAlone("either(1, 1, 1)", 1, x -> x.either(1, 1, 1));
    }

    private static void eitherWrong() {
        Scene scene = new Scene(Tell::rich);
        for (int k : Tell.NO_MACHINES) {
            scene.dueThrow("either(" + k + ", 5, 6)", Check.INDEX, x -> x.either(k, 5, 6));
            scene.dueThrow("either(5, " + k + ", 6)", Check.INDEX, x -> x.either(5, k, 6));
            scene.dueThrow("either(5, 6, " + k + ")", Check.INDEX, x -> x.either(5, 6, k));
        }
    }

    private static void eitherWrongBeforeNone() {
        Scene scene = new Scene(Tell::rich);
        for (int k : new int[] {-1, 8}) {
            scene.dueThrow("either(" + k + ", 0, 0)", Check.INDEX, x -> x.either(k, 0, 0));
            scene.dueThrow("either(0, 0, " + k + ")", Check.INDEX, x -> x.either(0, 0, k));
            scene.dueThrow("either(0, " + k + ", 0)", Check.INDEX, x -> x.either(0, k, 0));
        }
    }

    private static void pairs() {
        WordMachines x = withTwo();
        x.both(2, 0, 7);
        Check.due("pairs of one and other", Ask.machine(x, 2), PAIRS);
        x.both(3, 7, 0);
        Check.due("pairs of other and one", Ask.machine(x, 3), "0:1 a2 a3 a4 a5; 1:2; 2:0; 3:0; 4:0; 5:2 b0;");
        x.both(4, 0, 0);
        Check.due("pairs of one and one", Ask.machine(x, 4), PAIRS_OF_ONE);
        dueTwoStay(x);
    }

    private static void pairsMarks() {
        WordMachines x = new WordMachines();
        x.blank(0, 4);
        for (int what = 0; what <= 3; what++) {
            x.mark(0, what, what);
        }
        Check.due("pairs", x.both(1, 0, 0), 16);
        for (int one = 0; one <= 3; one++) {
            for (int other = 0; other <= 3; other++) {
                Check.due("marks of " + one + " and " + other, x.arcs(1, 4 * one + other, 8), one & other);
            }
        }
    }

    private static void pairsArcs() {
        WordMachines x = new WordMachines();
        x.blank(0, 2);
        x.blank(1, 3);
        x.arc(0, 0, 0, 1, true);
        x.arc(1, 0, 1, 2, true);
        Check.due("pairs", x.both(2, 0, 1), 6);
        Check.due("no letter that both have", Ask.machine(x, 2), "0:0; 1:0; 2:0; 3:0; 4:0; 5:0;");
        x.arc(1, 0, 0, 2, true);
        x.both(2, 0, 1);
        Check.due("one letter that both have", Ask.machine(x, 2), "0:0 a5; 1:0; 2:0; 3:0; 4:0; 5:0;");
        x.arc(0, 0, 0, 0, true);
        x.arc(1, 0, 0, 1, true);
        x.both(2, 0, 1);
        Check.due("two arcs and two", Ask.machine(x, 2), "0:0 a1 a2 a4 a5; 1:0; 2:0; 3:0; 4:0; 5:0;");
    }

    private static void pairsInTheirPlaces() {
        WordMachines x = withTwo();
        Check.due("into i", x.both(0, 0, 7), 6);
        Check.due("machine", Ask.machine(x, 0), PAIRS);
        Check.due("j stays", Ask.machine(x, 7), OTHER);
        WordMachines y = withTwo();
        Check.due("into j", y.both(7, 0, 7), 6);
        Check.due("machine", Ask.machine(y, 7), PAIRS);
        Check.due("i stays", Ask.machine(y, 0), ONE);
        WordMachines z = withTwo();
        Check.due("all in one place", z.both(0, 0, 0), 4);
        Check.due("machine", Ask.machine(z, 0), PAIRS_OF_ONE);
    }

    private static void pairsOverAnOlderMachine() {
        WordMachines x = withTwo();
        fill(x, 1);
        Check.due("both", x.both(1, 0, 7), 6);
        Check.due("machine", Ask.machine(x, 1), PAIRS);
        x.turn(1, 1);
        x.turn(1, 1);
        Check.due("nothing of the older one", Ask.machine(x, 1), PAIRS);
    }

    private static void bothAnswers1To24() {
        for (int one = 1; one <= 24; one++) {
            for (int other = 1; one * other <= 24; other++) {
                WordMachines x = new WordMachines();
                x.blank(0, one);
                x.blank(1, other);
                Check.due(one + " times " + other, x.both(2, 0, 1), one * other);
                Check.due("states", x.states(2), one * other);
            }
        }
    }

    private static void pairsWithState23() {
        for (int one : new int[] {1, 2, 3, 4, 6, 8, 12, 24}) {
            int other = 24 / one;
            WordMachines x = new WordMachines();
            Tell.ring(x, 0, one, 7, one - 1);
            Tell.ring(x, 1, other, 7, other - 1);
            x.arc(0, one - 1, 0, one - 1, true);
            x.arc(1, other - 1, 0, other - 1, true);
            Check.due(one + " times " + other, x.both(2, 0, 1), 24);
            Check.due("the last pair is an end", x.arcs(2, 23, 8) & 2, 2);
            Check.due("the first pair is a start", x.arcs(2, 0, 8) & 1, 1);
            Check.due("from the last pair to the first", x.arcs(2, 23, 7), 1);
            Check.due("from the last pair to itself", x.arcs(2, 23, 0), 1 << 23);
        }
    }

    private static void pairsWithAllArcs() {
        WordMachines x = withAllArcs();
        x.mark(1, 0, 3);
        for (int letter = 0; letter < 8; letter++) {
            x.arc(1, 0, letter, 0, true);
        }
        Check.due("24 times 1", x.both(2, 0, 1), 24);
        Check.due("1 times 24", x.both(3, 1, 0), 24);
        for (int state = 0; state < 24; state += 23) {
            for (int letter = 0; letter < 8; letter++) {
                Check.due("24 times 1, arcs from " + state, x.arcs(2, state, letter), 0xfffffe);
                Check.due("1 times 24, arcs from " + state, x.arcs(3, state, letter), 0xfffffe);
            }
        }
    }

    private static void bothNone() {
        for (int one = 1; one <= 24; one++) {
            int other = 24 / one + 1;
            WordMachines x = new WordMachines();
            x.blank(0, one);
            if (other <= 24) {
                x.blank(1, other);
                Check.due(one + " times " + other, x.both(2, 0, 1), -1);
                Check.due(other + " times " + one, x.both(2, 1, 0), -1);
                Check.due("the machine stays", x.states(2), 1);
            }
        }
        WordMachines x = new WordMachines();
        x.blank(0, 5);
        Check.due("5 times 5", x.both(0, 0, 0), -1);
        x.blank(0, 24);
        Check.due("24 times 24", x.both(0, 0, 0), -1);
        Check.due("24 times 1", x.both(1, 0, 2), 24);
    }

    private static void bothNoneChangesNothing() {
        Scene scene = new Scene(Tell::rich);
        for (int k = 0; k <= 7; k++) {
            int machine = k;
            scene.dueNone("both(" + k + ", 0, 5)", x -> x.both(machine, 0, 5));
            scene.dueNone("both(" + k + ", 5, 0)", x -> x.both(machine, 5, 0));
            scene.dueNone("both(" + k + ", 6, 6)", x -> x.both(machine, 6, 6));
        }
    }

    private static void bothChangesThatMachineAlone() {
        Scene scene = new Scene(Tell::rich);
        scene.dueChangeOfMachineAlone("both(7, 5, 2)", 7, x -> x.both(7, 5, 2));
        scene.dueChangeOfMachineAlone("both(0, 5, 6)", 0, x -> x.both(0, 5, 6));
        scene.dueChangeOfMachineAlone("both(5, 5, 5)", 5, x -> x.both(5, 5, 5));
    }

    private static void bothWrong() {
        Scene scene = new Scene(Tell::rich);
        for (int k : Tell.NO_MACHINES) {
            scene.dueThrow("both(" + k + ", 5, 6)", Check.INDEX, x -> x.both(k, 5, 6));
            scene.dueThrow("both(5, " + k + ", 6)", Check.INDEX, x -> x.both(5, k, 6));
            scene.dueThrow("both(5, 6, " + k + ")", Check.INDEX, x -> x.both(5, 6, k));
        }
    }

    private static void bothWrongBeforeNone() {
        Scene scene = new Scene(Tell::rich);
        for (int k : new int[] {-1, 8}) {
            scene.dueThrow("both(" + k + ", 0, 0)", Check.INDEX, x -> x.both(k, 0, 0));
            scene.dueThrow("both(0, 0, " + k + ")", Check.INDEX, x -> x.both(0, 0, k));
            scene.dueThrow("both(0, " + k + ", 0)", Check.INDEX, x -> x.both(0, k, 0));
        }
    }
}
