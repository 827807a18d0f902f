/** Promises 7 to 11: blank, mark, arc, arcs, states. */
public final class ToldTest {
    private static final int[] NO_MACHINES = {-1, 8, 9, Integer.MIN_VALUE, Integer.MAX_VALUE};

    public static void main(String[] args) {
        blankForgets();
        blankWrong();
        markSets();
        markWrong();
        arcIsThereOrNot();
        arcWrong();
        arcsWrong();
        statesOfAll();
        Check.end();
    }

    private static void blankForgets() {
        WordMachines x = new WordMachines();
        Ask.read(x, 4, ".*.*.*");
        x.blank(4, 3);
        Check.due("blank over an expression", Ask.machine(x, 4), "0:0; 1:0; 2:0;");
        for (int n = 1; n <= 24; n++) {
            x.blank(4, n);
            Check.due("states behind blank " + n, x.states(4), n);
        }
        x.mark(4, 23, 3);
        x.arc(4, 23, 0, 23, true);
        x.blank(4, 2);
        x.blank(4, 24);
        Check.due("a state that was away is blank", x.arcs(4, 23, 8), 0);
        Check.due("its arcs too", x.arcs(4, 23, 0), 0);
        Check.due("machine 3 stays", Ask.machine(x, 3), "0:0;");
        Check.due("machine 5 stays", Ask.machine(x, 5), "0:0;");
        Check.due("the text stays", x.wipe(), 6);
    }

    private static WordMachines full() {
        WordMachines x = new WordMachines();
        x.blank(0, 3);
        x.mark(0, 0, 1);
        x.mark(0, 1, 2);
        x.arc(0, 0, 0, 1, true);
        x.arc(0, 1, 7, 2, true);
        Ask.setText(x, "a");
        return x;
    }

    private static void blankWrong() {
        WordMachines x = full();
        for (int k : NO_MACHINES) {
            Check.dueThrowUnchanged("blank(" + k + ", 1)", Check.INDEX, x, () -> x.blank(k, 1));
            Check.dueThrowUnchanged("blank(" + k + ", 0)", Check.INDEX, x, () -> x.blank(k, 0));
        }
        for (int n : new int[] {0, -1, 25, Integer.MIN_VALUE, Integer.MAX_VALUE}) {
            Check.dueThrowUnchanged("blank(0, " + n + ")", Check.ARGUMENT, x, () -> x.blank(0, n));
        }
    }

    private static void markSets() {
        WordMachines x = new WordMachines();
        x.blank(7, 24);
        for (int state : new int[] {0, 11, 23}) {
            for (int what : new int[] {3, 0, 1, 2, 3, 2, 1, 0, 2}) {
                x.mark(7, state, what);
                Check.due("mark " + state + " " + what, x.arcs(7, state, 8), what);
                Check.due("another state", x.arcs(7, 5, 8), 0);
            }
        }
        Check.due("marks stay beside one another", x.arcs(7, 0, 8), 2);
        x.blank(7, 1);
        Check.due("neither takes the empty word", x.takes(7), false);
        x.mark(7, 0, 1);
        Check.due("a start alone", x.takes(7), false);
        x.mark(7, 0, 2);
        Check.due("an end alone", x.takes(7), false);
        x.mark(7, 0, 3);
        Check.due("both take the empty word", x.takes(7), true);
    }

    private static void markWrong() {
        WordMachines x = full();
        for (int k : NO_MACHINES) {
            Check.dueThrowUnchanged("mark(" + k + ", 0, 0)", Check.INDEX, x, () -> x.mark(k, 0, 0));
            Check.dueThrowUnchanged("mark(" + k + ", 0, 4)", Check.INDEX, x, () -> x.mark(k, 0, 4));
        }
        for (int state : new int[] {-1, 3, 24, 32, Integer.MIN_VALUE, Integer.MAX_VALUE}) {
            Check.dueThrowUnchanged("mark(0, " + state + ", 3)", Check.INDEX, x, () -> x.mark(0, state, 3));
            Check.dueThrowUnchanged("mark(0, " + state + ", -1)", Check.INDEX, x, () -> x.mark(0, state, -1));
        }
        for (int what : new int[] {-1, 4, 7, Integer.MIN_VALUE, Integer.MAX_VALUE}) {
            Check.dueThrowUnchanged("mark(0, 2, " + what + ")", Check.ARGUMENT, x, () -> x.mark(0, 2, what));
        }
    }

    private static void arcIsThereOrNot() {
        WordMachines x = new WordMachines();
        x.blank(6, 24);
        for (int from : new int[] {0, 10, 23}) {
            for (int letter = 0; letter < 8; letter++) {
                for (int to : new int[] {0, 12, 23}) {
                    Check.due("no arc to take away", x.arc(6, from, letter, to, false), false);
                    int before = x.arcs(6, from, letter);
                    Check.due("arc is new", x.arc(6, from, letter, to, true), false);
                    Check.due("arc is there", x.arc(6, from, letter, to, true), true);
                    Check.due("arcs with it", x.arcs(6, from, letter), before | 1 << to);
                }
            }
        }
        Check.due("take an arc away", x.arc(6, 10, 3, 12, false), true);
        Check.due("arcs without it", x.arcs(6, 10, 3), 1 | 1 << 23);
        Check.due("it is away", x.arc(6, 10, 3, 12, false), false);
        Check.due("another letter stays", x.arcs(6, 10, 4), 1 | 1 << 12 | 1 << 23);
        Check.due("another state stays", x.arcs(6, 23, 3), 1 | 1 << 12 | 1 << 23);
        Check.due("the other way is none", x.arcs(6, 12, 3), 0);
        Check.due("arcs make no starts and ends", x.arcs(6, 10, 8), 0);
        Check.due("another machine has none", x.arcs(5, 0, 3), 0);
    }

    private static void arcWrong() {
        WordMachines x = full();
        for (int k : NO_MACHINES) {
            Check.dueThrowUnchanged("arc(" + k + ")", Check.INDEX, x, () -> x.arc(k, 0, 0, 0, true));
            Check.dueThrowUnchanged("arc(" + k + ") and letter", Check.INDEX, x, () -> x.arc(k, 0, 8, 0, true));
        }
        for (int state : new int[] {-1, 3, 24, 32, Integer.MIN_VALUE, Integer.MAX_VALUE}) {
            Check.dueThrowUnchanged("arc from " + state, Check.INDEX, x, () -> x.arc(0, state, 0, 0, true));
            Check.dueThrowUnchanged("arc to " + state, Check.INDEX, x, () -> x.arc(0, 0, 0, state, true));
            Check.dueThrowUnchanged("arc from " + state + " and letter", Check.INDEX, x,
                    () -> x.arc(0, state, -1, 0, true));
            Check.dueThrowUnchanged("arc to " + state + " and letter", Check.INDEX, x,
                    () -> x.arc(0, 0, 8, state, false));
        }
        for (int letter : new int[] {-1, 8, 9, 97, Integer.MIN_VALUE, Integer.MAX_VALUE}) {
            Check.dueThrowUnchanged("arc with " + letter, Check.ARGUMENT, x, () -> x.arc(0, 0, letter, 1, true));
            Check.dueThrowUnchanged("no arc with " + letter, Check.ARGUMENT, x, () -> x.arc(0, 0, letter, 1, false));
        }
    }

    private static void arcsWrong() {
        WordMachines x = full();
        for (int k : NO_MACHINES) {
            Check.dueThrow("arcs(" + k + ")", Check.INDEX, () -> x.arcs(k, 0, 0));
            Check.dueThrow("arcs(" + k + ") and letter", Check.INDEX, () -> x.arcs(k, 0, 9));
        }
        for (int state : new int[] {-1, 3, 24, Integer.MIN_VALUE, Integer.MAX_VALUE}) {
            Check.dueThrow("arcs from " + state, Check.INDEX, () -> x.arcs(0, state, 0));
            Check.dueThrow("arcs from " + state + " with 8", Check.INDEX, () -> x.arcs(0, state, 8));
            Check.dueThrow("arcs from " + state + " and letter", Check.INDEX, () -> x.arcs(0, state, 9));
        }
        for (int letter : new int[] {-1, 9, 97, Integer.MIN_VALUE, Integer.MAX_VALUE}) {
            Check.dueThrow("arcs with " + letter, Check.ARGUMENT, () -> x.arcs(0, 0, letter));
        }
        Check.due("machine told", Ask.machine(x, 0), "0:1 a1; 1:2 h2; 2:0;");
    }

    private static void statesOfAll() {
        WordMachines x = new WordMachines();
        for (int k = 0; k < 8; k++) {
            x.blank(k, 3 * k + 1);
        }
        for (int k = 0; k < 8; k++) {
            Check.due("states " + k, x.states(k), 3 * k + 1);
        }
        for (int k : NO_MACHINES) {
            Check.dueThrowUnchanged("states(" + k + ")", Check.INDEX, x, () -> x.states(k));
        }
    }
}
