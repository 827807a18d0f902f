/** The edges of promises 7 to 11 (blank, mark, arc, arcs, states). */
public final class EdgesOfToldTest {
    /** Numbers beside those of a machine of five states, the nearest ones and those that wrap around to one. */
    private static final int[] NO_STATES = {-1, 5, 6, 23, 24, 32, 36, 256, 1 << 16, Integer.MIN_VALUE, Integer.MAX_VALUE};
    private static final int[] NO_LETTERS = {-1, 8, 9, 16, 'a', 256, 1 << 16, Integer.MIN_VALUE, Integer.MAX_VALUE};
    private static final int ALL = 0xffffff;

    public static void main(String[] args) {
        Check.terms("up to 24 STATES each, from 0 on", EdgesOfToldTest::machinesOf1To24States);

        Check.promise(7, "Machine k has n states", EdgesOfToldTest::blank1To24);
        Check.promise(7, "no starts, ends and arcs", EdgesOfToldTest::blankForgets);
        Check.promise(7, "no starts, ends and arcs", EdgesOfToldTest::blankForgetsWhatIsAway);
        Check.promise(7, "Machine k has n states", EdgesOfToldTest::blankChangesThatMachineAlone);
        Check.promise(7, "IndexOutOfBoundsException: there is no machine k", EdgesOfToldTest::blankNoMachine);
        Check.promise(7, "IllegalArgumentException: n is not 1 to 24", EdgesOfToldTest::blankWrongSize);
        Check.promise(7, "the one named first when several would do", EdgesOfToldTest::blankBothWrong);

        Check.promise(8, "a start, or an end, or neither or both", EdgesOfToldTest::mark0To3);
        Check.promise(8, "what has the bits 1 (start) and 2 (end)", EdgesOfToldTest::markOverEachOther);
        Check.promise(8, "A state of machine k", EdgesOfToldTest::markFirstAndLastState);
        Check.promise(8, "A state of machine k", EdgesOfToldTest::markChangesThatMachineAlone);
        Check.promise(8, "IndexOutOfBoundsException: there is no machine k", EdgesOfToldTest::markNoMachine);
        Check.promise(8, "IndexOutOfBoundsException: there is no machine k, or state", EdgesOfToldTest::markNoState);
        Check.promise(8, "IllegalArgumentException: what is not 0 to 3", EdgesOfToldTest::markWrongWhat);
        Check.promise(8, "the one named first when several would do", EdgesOfToldTest::markSeveralWrong);

        Check.promise(9, "An arc of machine k is there, or (is false) not", EdgesOfToldTest::arcIsThereOrNot);
        Check.promise(9, "Answers whether it was", EdgesOfToldTest::arcAnswers);
        Check.promise(9, "An arc of machine k is there", EdgesOfToldTest::arcOfFirstAndLast);
        Check.promise(9, "An arc of machine k is there", EdgesOfToldTest::arcsAllOfThem);
        Check.promise(9, "An arc of machine k is there", EdgesOfToldTest::arcChangesThatMachineAlone);
        Check.promise(9, "IndexOutOfBoundsException: there is no machine k", EdgesOfToldTest::arcNoMachine);
        Check.promise(9, "or one of the states", EdgesOfToldTest::arcNoState);
        Check.promise(9, "IllegalArgumentException: there is no such letter", EdgesOfToldTest::arcNoLetter);
        Check.promise(9, "the one named first when several would do", EdgesOfToldTest::arcSeveralWrong);

        Check.promise(10, "as bits", EdgesOfToldTest::arcsNoneToAll);
        Check.promise(10, "with letter 8: 1 if it is a start, and 2 if an end", EdgesOfToldTest::arcsWithLetter8);
        Check.promise(10, "The states to which arcs of machine k lead", EdgesOfToldTest::arcsChangesNothing);
        Check.promise(10, "IndexOutOfBoundsException: there is no machine k", EdgesOfToldTest::arcsNoMachine);
        Check.promise(10, "IndexOutOfBoundsException: there is no machine k, or state", EdgesOfToldTest::arcsNoState);
        Check.promise(10, "IllegalArgumentException: there is no such letter", EdgesOfToldTest::arcsNoLetter);
        Check.promise(10, "the one named first when several would do", EdgesOfToldTest::arcsSeveralWrong);

        Check.promise(11, "How many states machine k has", EdgesOfToldTest::states1To24);
        Check.promise(11, "How many states machine k has", EdgesOfToldTest::statesChangesNothing);
        Check.promise(11, "IndexOutOfBoundsException: there is no machine k", EdgesOfToldTest::statesNoMachine);
        Check.end();
    }

    private static void machinesOf1To24States() {
        for (int n = 1; n <= 24; n++) {
            WordMachines x = new WordMachines();
            x.blank(0, n);
            int behind = n;
            x.mark(0, 0, 3);
            x.mark(0, n - 1, 3);
            Check.dueThrow("state " + n + " of " + n, Check.INDEX, () -> x.mark(0, behind, 3));
            Check.dueThrow("state -1 of " + n, Check.INDEX, () -> x.mark(0, -1, 3));
            Check.due("states", x.states(0), n);
        }
    }

    private static void blank1To24() {
        for (int n = 1; n <= 24; n++) {
            for (int k = 0; k <= 7; k += 7) {
                WordMachines x = new WordMachines();
                x.blank(k, n);
                Check.due("states behind blank(" + k + ", " + n + ")", x.states(k), n);
                Check.due("the last one's marks", x.arcs(k, n - 1, 8), 0);
            }
        }
    }

    /** Everything that a machine of n states can have. */
    private static void fill(WordMachines x, int k, int n) {
        x.blank(k, n);
        for (int state = 0; state < n; state++) {
            x.mark(k, state, 3);
            for (int letter = 0; letter < 8; letter++) {
                x.arc(k, state, letter, n - 1 - state, true);
            }
        }
    }

    private static void dueBlank(WordMachines x, int k, int n) {
        Check.due("states", x.states(k), n);
        for (int state = 0; state < n; state++) {
            for (int letter = 0; letter <= 8; letter++) {
                Check.due("arcs of " + state + " with " + letter, x.arcs(k, state, letter), 0);
            }
        }
    }

    private static void blankForgets() {
        WordMachines x = new WordMachines();
        fill(x, 3, 24);
        x.blank(3, 24);
        dueBlank(x, 3, 24);
        WordMachines y = new WordMachines();
        fill(y, 3, 24);
        y.blank(3, 1);
        dueBlank(y, 3, 1);
        Check.due("the empty word", y.takes(3), false);
    }

    private static void blankForgetsWhatIsAway() {
        WordMachines x = new WordMachines();
        fill(x, 3, 24);
        x.blank(3, 1);
        x.blank(3, 24);
        dueBlank(x, 3, 24);
    }

    private static void blankChangesThatMachineAlone() {
        Scene scene = new Scene(Tell::rich);
        for (int k = 0; k <= 7; k++) {
            int machine = k;
            scene.dueChangeOfMachineAlone("blank(" + k + ", 24)", k, x -> x.blank(machine, 24));
        }
    }

    private static void blankNoMachine() {
        Scene scene = new Scene(Tell::rich);
        for (int k : Tell.NO_MACHINES) {
            scene.dueThrow("blank(" + k + ", 1)", Check.INDEX, x -> x.blank(k, 1));
            scene.dueThrow("blank(" + k + ", 24)", Check.INDEX, x -> x.blank(k, 24));
        }
    }

    private static void blankWrongSize() {
        Scene scene = new Scene(Tell::rich);
        for (int n : new int[] {0, -1, 25, 26, 32, 257, 1 << 16, Integer.MIN_VALUE, Integer.MAX_VALUE}) {
            scene.dueThrow("blank(0, " + n + ")", Check.ARGUMENT, x -> x.blank(0, n));
            scene.dueThrow("blank(7, " + n + ")", Check.ARGUMENT, x -> x.blank(7, n));
        }
    }

    private static void blankBothWrong() {
        for (int k : new int[] {-1, 8}) {
            for (int n : new int[] {0, 25}) {
                WordMachines x = new WordMachines();
                Check.dueThrow("blank(" + k + ", " + n + ")", Check.INDEX, () -> x.blank(k, n));
            }
        }
    }

    private static void mark0To3() {
        for (int what = 0; what <= 3; what++) {
            WordMachines x = new WordMachines();
            x.blank(0, 3);
            x.mark(0, 1, what);
            Check.due("marks behind mark " + what, x.arcs(0, 1, 8), what);
            Check.due("the state before", x.arcs(0, 0, 8), 0);
            Check.due("the state behind", x.arcs(0, 2, 8), 0);
            Check.due("the empty word behind mark " + what, x.takes(0), what == 3);
        }
    }

    private static void markOverEachOther() {
        for (int former = 0; former <= 3; former++) {
            for (int latter = 0; latter <= 3; latter++) {
                WordMachines x = new WordMachines();
                x.mark(7, 0, former);
                x.mark(7, 0, latter);
                Check.due("mark " + latter + " over " + former, x.arcs(7, 0, 8), latter);
            }
        }
    }

    private static void markFirstAndLastState() {
        for (int n : new int[] {1, 2, 11, 24}) {
            WordMachines x = new WordMachines();
            x.blank(0, n);
            x.mark(0, 0, 1);
            x.mark(0, n - 1, 2);
            Check.due("the last of " + n, x.arcs(0, n - 1, 8), 2);
            Check.due("the first of " + n, x.arcs(0, 0, 8), n == 1 ? 2 : 1);
        }
    }

    private static void markChangesThatMachineAlone() {
        Scene scene = new Scene(Tell::rich);
        scene.dueChangeOfMachineAlone("mark(0, 23, 3)", 0, x -> x.mark(0, 23, 3));
        scene.dueChangeOfMachineAlone("mark(7, 0, 3)", 7, x -> x.mark(7, 0, 3));
        WordMachines x = Tell.rich();
        String before = Ask.machine(x, 6);
        x.mark(6, 4, 0);
        Check.due("machine behind a mark that was so", Ask.machine(x, 6), before);
    }

    private static void markNoMachine() {
        Scene scene = new Scene(Tell::rich);
        for (int k : Tell.NO_MACHINES) {
            scene.dueThrow("mark(" + k + ", 0, 3)", Check.INDEX, x -> x.mark(k, 0, 3));
        }
    }

    private static void markNoState() {
        Scene scene = new Scene(Tell::rich);
        for (int state : NO_STATES) {
            scene.dueThrow("mark(6, " + state + ", 3)", Check.INDEX, x -> x.mark(6, state, 3));
        }
        scene.dueThrow("mark(0, 24, 3)", Check.INDEX, x -> x.mark(0, 24, 3));
        scene.dueThrow("mark(7, 1, 3)", Check.INDEX, x -> x.mark(7, 1, 3));
    }

    private static void markWrongWhat() {
        Scene scene = new Scene(Tell::rich);
        for (int what : new int[] {-1, 4, 5, 7, 256, 1 << 16, Integer.MIN_VALUE, Integer.MAX_VALUE}) {
            scene.dueThrow("mark(6, 4, " + what + ")", Check.ARGUMENT, x -> x.mark(6, 4, what));
        }
    }

    private static void markSeveralWrong() {
        for (int what : new int[] {-1, 4}) {
            WordMachines x = Tell.rich();
            Check.dueThrow("mark(8, 0, " + what + ")", Check.INDEX, () -> x.mark(8, 0, what));
            Check.dueThrow("mark(-1, 0, " + what + ")", Check.INDEX, () -> x.mark(-1, 0, what));
            Check.dueThrow("mark(6, 5, " + what + ")", Check.INDEX, () -> x.mark(6, 5, what));
            Check.dueThrow("mark(6, -1, " + what + ")", Check.INDEX, () -> x.mark(6, -1, what));
            Check.dueThrow("mark(8, 24, " + what + ")", Check.INDEX, () -> x.mark(8, 24, what));
        }
    }

    private static void arcIsThereOrNot() {
        WordMachines x = new WordMachines();
        x.blank(0, 3);
        x.arc(0, 0, 0, 1, true);
        Check.due("with the arc", Ask.machine(x, 0), "0:0 a1; 1:0; 2:0;");
        x.arc(0, 0, 0, 1, true);
        Check.due("with the arc told twice", Ask.machine(x, 0), "0:0 a1; 1:0; 2:0;");
        x.arc(0, 0, 0, 2, true);
        x.arc(0, 0, 0, 1, false);
        Check.due("without the arc", Ask.machine(x, 0), "0:0 a2; 1:0; 2:0;");
        x.arc(0, 0, 0, 1, false);
        Check.due("without the arc told twice", Ask.machine(x, 0), "0:0 a2; 1:0; 2:0;");
    }

    private static void arcAnswers() {
        WordMachines x = new WordMachines();
        x.blank(0, 2);
        Check.due("not, of none", x.arc(0, 0, 0, 1, false), false);
        Check.due("there, of none", x.arc(0, 0, 0, 1, true), false);
        Check.due("there, of one", x.arc(0, 0, 0, 1, true), true);
        Check.due("not, of one", x.arc(0, 0, 0, 1, false), true);
        Check.due("not, of none again", x.arc(0, 0, 0, 1, false), false);
        x.arc(0, 0, 0, 1, true);
        Check.due("another letter", x.arc(0, 0, 1, 1, true), false);
        Check.due("another goal", x.arc(0, 0, 0, 0, true), false);
        Check.due("the other way", x.arc(0, 1, 0, 0, true), false);
        Check.due("another machine", Check.thrownBy(() -> x.arc(1, 0, 0, 1, true)), Check.INDEX);
        Check.due("another machine's state 0", x.arc(1, 0, 0, 0, true), false);
    }

    private static void arcOfFirstAndLast() {
        for (int n : new int[] {1, 2, 24}) {
            for (int from : new int[] {0, n - 1}) {
                for (int to : new int[] {0, n - 1}) {
                    for (int letter : new int[] {0, 7}) {
                        WordMachines x = new WordMachines();
                        x.blank(7, n);
                        Check.due("new", x.arc(7, from, letter, to, true), false);
                        Check.due("told", x.arcs(7, from, letter), 1 << to);
                        Check.due("taken away", x.arc(7, from, letter, to, false), true);
                        Check.due("gone", x.arcs(7, from, letter), 0);
                    }
                }
            }
        }
    }

    private static void arcsAllOfThem() {
        for (int letter = 0; letter < 8; letter++) {
            for (int from = 0; from < 24; from++) {
                WordMachines x = new WordMachines();
                x.blank(0, 24);
                for (int to = 0; to < 24; to++) {
                    x.arc(0, from, letter, to, true);
                }
                Check.due("all goals of " + from + " with " + letter, x.arcs(0, from, letter), ALL);
                x.arc(0, from, letter, from, false);
                Check.due("all goals but one", x.arcs(0, from, letter), ALL & ~(1 << from));
                Check.due("another letter", x.arcs(0, from, letter ^ 1), 0);
                Check.due("another state", x.arcs(0, from ^ 1, letter), 0);
            }
        }
    }

    private static void arcChangesThatMachineAlone() {
        Scene scene = new Scene(Tell::rich);
        scene.dueChangeOfMachineAlone("arc(0, 23, 7, 23)", 0, x -> x.arc(0, 23, 7, 23, true));
        scene.dueChangeOfMachineAlone("arc(7, 0, 0, 0)", 7, x -> x.arc(7, 0, 0, 0, true));
        scene.dueNoChange("an arc that was there", x -> x.arc(0, 22, 7, 23, true));
        scene.dueNoChange("no arc where none was", x -> x.arc(0, 23, 7, 22, false));
    }

    private static void arcNoMachine() {
        Scene scene = new Scene(Tell::rich);
        for (int k : Tell.NO_MACHINES) {
            scene.dueThrow("arc of " + k, Check.INDEX, x -> x.arc(k, 0, 0, 0, true));
            scene.dueThrow("no arc of " + k, Check.INDEX, x -> x.arc(k, 0, 0, 0, false));
        }
    }

    private static void arcNoState() {
        Scene scene = new Scene(Tell::rich);
        for (int state : NO_STATES) {
            scene.dueThrow("arc from " + state, Check.INDEX, x -> x.arc(6, state, 0, 0, true));
            scene.dueThrow("arc to " + state, Check.INDEX, x -> x.arc(6, 0, 0, state, true));
            scene.dueThrow("arc from and to " + state, Check.INDEX, x -> x.arc(6, state, 0, state, false));
        }
        scene.dueThrow("arc from 24 of 24", Check.INDEX, x -> x.arc(0, 24, 0, 0, true));
        scene.dueThrow("arc to 24 of 24", Check.INDEX, x -> x.arc(0, 0, 0, 24, true));
        scene.dueThrow("arc from 1 of 1", Check.INDEX, x -> x.arc(7, 1, 0, 0, true));
        scene.dueThrow("arc to 1 of 1", Check.INDEX, x -> x.arc(7, 0, 0, 1, true));
    }

    private static void arcNoLetter() {
        Scene scene = new Scene(Tell::rich);
        for (int letter : NO_LETTERS) {
            scene.dueThrow("arc with " + letter, Check.ARGUMENT, x -> x.arc(6, 4, letter, 4, true));
            scene.dueThrow("no arc with " + letter, Check.ARGUMENT, x -> x.arc(6, 0, letter, 1, false));
        }
    }

    private static void arcSeveralWrong() {
        for (int letter : new int[] {-1, 8}) {
            WordMachines x = Tell.rich();
            Check.dueThrow("machine and letter", Check.INDEX, () -> x.arc(8, 0, letter, 0, true));
            Check.dueThrow("machine -1 and letter", Check.INDEX, () -> x.arc(-1, 0, letter, 0, true));
            Check.dueThrow("from and letter", Check.INDEX, () -> x.arc(6, 5, letter, 0, true));
            Check.dueThrow("from -1 and letter", Check.INDEX, () -> x.arc(6, -1, letter, 0, true));
            Check.dueThrow("letter and to", Check.INDEX, () -> x.arc(6, 0, letter, 5, true));
            Check.dueThrow("letter and to -1", Check.INDEX, () -> x.arc(6, 0, letter, -1, false));
            Check.dueThrow("all", Check.INDEX, () -> x.arc(8, 24, letter, 24, true));
        }
    }

    private static void arcsNoneToAll() {
        WordMachines x = new WordMachines();
        x.blank(0, 24);
        Check.due("none", x.arcs(0, 23, 7), 0);
        int bits = 0;
        for (int to = 0; to < 24; to++) {
            x.arc(0, 23, 7, to, true);
            bits |= 1 << to;
            Check.due("to " + to, x.arcs(0, 23, 7), bits);
        }
        Check.due("all", x.arcs(0, 23, 7), ALL);
    }

    private static void arcsWithLetter8() {
        WordMachines x = new WordMachines();
        x.blank(0, 24);
        for (int state : new int[] {0, 23}) {
            for (int what = 0; what <= 3; what++) {
                x.mark(0, state, what);
                Check.due("marks " + what + " of " + state, x.arcs(0, state, 8), what);
            }
        }
        x.arc(0, 5, 7, 5, true);
        x.arc(0, 5, 0, 23, true);
        Check.due("arcs are no marks", x.arcs(0, 5, 8), 0);
        Check.due("marks are no arcs", x.arcs(0, 23, 7), 0);
    }

    private static void arcsChangesNothing() {
        Scene scene = new Scene(Tell::rich);
        scene.dueNoChange("arcs(0, 23, 8)", x -> x.arcs(0, 23, 8));
        scene.dueNoChange("arcs(0, 22, 7)", x -> x.arcs(0, 22, 7));
    }

    private static void arcsNoMachine() {
        Scene scene = new Scene(Tell::rich);
        for (int k : Tell.NO_MACHINES) {
            scene.dueThrow("arcs of " + k, Check.INDEX, x -> x.arcs(k, 0, 0));
            scene.dueThrow("marks of " + k, Check.INDEX, x -> x.arcs(k, 0, 8));
        }
    }

    private static void arcsNoState() {
        Scene scene = new Scene(Tell::rich);
        for (int state : NO_STATES) {
            scene.dueThrow("arcs from " + state, Check.INDEX, x -> x.arcs(6, state, 1));
            scene.dueThrow("marks of " + state, Check.INDEX, x -> x.arcs(6, state, 8));
        }
        scene.dueThrow("arcs from 24 of 24", Check.INDEX, x -> x.arcs(0, 24, 0));
        scene.dueThrow("arcs from 1 of 1", Check.INDEX, x -> x.arcs(7, 1, 0));
    }

    private static void arcsNoLetter() {
        Scene scene = new Scene(Tell::rich);
        for (int letter : NO_LETTERS) {
            if (letter != 8) {
                scene.dueThrow("arcs with " + letter, Check.ARGUMENT, x -> x.arcs(6, 4, letter));
            }
        }
        WordMachines x = Tell.rich();
        Check.due("arcs with 0", x.arcs(1, 0, 0), 2);
        Check.due("arcs with 7", x.arcs(0, 0, 7), 2);
        Check.due("arcs with 8", x.arcs(0, 0, 8), 1);
    }

    private static void arcsSeveralWrong() {
        for (int letter : new int[] {-1, 9}) {
            WordMachines x = Tell.rich();
            Check.dueThrow("machine and letter", Check.INDEX, () -> x.arcs(8, 0, letter));
            Check.dueThrow("machine -1 and letter", Check.INDEX, () -> x.arcs(-1, 0, letter));
            Check.dueThrow("state and letter", Check.INDEX, () -> x.arcs(6, 5, letter));
            Check.dueThrow("state -1 and letter", Check.INDEX, () -> x.arcs(6, -1, letter));
        }
    }

    private static void states1To24() {
        WordMachines x = new WordMachines();
        for (int k = 0; k <= 7; k++) {
            Check.due("states when new", x.states(k), 1);
            x.blank(k, 24 - k);
            Check.due("states behind blank", x.states(k), 24 - k);
        }
        Check.due("states of machine 0 still", x.states(0), 24);
        x.blank(0, 1);
        Check.due("states of the least machine", x.states(0), 1);
    }

    private static void statesChangesNothing() {
        Scene scene = new Scene(Tell::rich);
        scene.dueNoChange("states(0)", x -> x.states(0));
        scene.dueNoChange("states(7)", x -> x.states(7));
    }

    private static void statesNoMachine() {
        Scene scene = new Scene(Tell::rich);
        for (int k : Tell.NO_MACHINES) {
            scene.dueThrow("states(" + k + ")", Check.INDEX, x -> x.states(k));
        }
    }
}
