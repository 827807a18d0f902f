/** Promises 7 to 11: blank, mark, arc, arcs, states. */
public final class ToldTest {
    public static void main(String[] args) {
        blankForgets();
        markSets();
        arcIsThereOrNot();
        statesOfAll();
        Check.end();
    }

    private static void blankForgets() {
        WordMachines x = new WordMachines();
        Ask.read(x, 4, ".*.*.*");
        x.blank(4, 3);
        Check.due("blank over an expression", Ask.machine(x, 4), "0:0; 1:0; 2:0;");
        for (int n = 1; n <= 24; n++) {
            x.blank(4, n);
            Check.due("states behind blank " + n, x.states(4), n);
        }
        x.mark(4, 23, 3);
        x.arc(4, 23, 0, 23, true);
        x.blank(4, 2);
        x.blank(4, 24);
        Check.due("a state that was away is blank", x.arcs(4, 23, 8), 0);
        Check.due("its arcs too", x.arcs(4, 23, 0), 0);
        Check.due("machine 3 stays", Ask.machine(x, 3), "0:0;");
        Check.due("machine 5 stays", Ask.machine(x, 5), "0:0;");
        Check.due("the text stays", x.wipe(), 6);
    }

    private static void markSets() {
        WordMachines x = new WordMachines();
        x.blank(7, 24);
        for (int state : new int[] {0, 11, 23}) {
            for (int what : new int[] {3, 0, 1, 2, 3, 2, 1, 0, 2}) {
                x.mark(7, state, what);
                Check.due("mark " + state + " " + what, x.arcs(7, state, 8), what);
                Check.due("another state", x.arcs(7, 5, 8), 0);
            }
        }
        Check.due("marks stay beside one another", x.arcs(7, 0, 8), 2);
        x.blank(7, 1);
        Check.due("neither takes the empty word", x.takes(7), false);
        x.mark(7, 0, 1);
        Check.due("a start alone", x.takes(7), false);
        x.mark(7, 0, 2);
        Check.due("an end alone", x.takes(7), false);
        x.mark(7, 0, 3);
        Check.due("both take the empty word", x.takes(7), true);
    }

    private static void arcIsThereOrNot() {
        WordMachines x = new WordMachines();
        x.blank(6, 24);
        for (int from : new int[] {0, 10, 23}) {
            for (int letter = 0; letter < 8; letter++) {
                for (int to : new int[] {0, 12, 23}) {
                    Check.due("no arc to take away", x.arc(6, from, letter, to, false), false);
                    int before = x.arcs(6, from, letter);
                    Check.due("arc is new", x.arc(6, from, letter, to, true), false);
                    Check.due("arc is there", x.arc(6, from, letter, to, true), true);
                    Check.due("arcs with it", x.arcs(6, from, letter), before | 1 << to);
                }
            }
        }
        Check.due("take an arc away", x.arc(6, 10, 3, 12, false), true);
        Check.due("arcs without it", x.arcs(6, 10, 3), 1 | 1 << 23);
        Check.due("it is away", x.arc(6, 10, 3, 12, false), false);
        Check.due("another letter stays", x.arcs(6, 10, 4), 1 | 1 << 12 | 1 << 23);
        Check.due("another state stays", x.arcs(6, 23, 3), 1 | 1 << 12 | 1 << 23);
        Check.due("the other way is none", x.arcs(6, 12, 3), 0);
        Check.due("arcs make no starts and ends", x.arcs(6, 10, 8), 0);
        Check.due("another machine has none", x.arcs(5, 0, 3), 0);
    }

    private static void statesOfAll() {
        WordMachines x = new WordMachines();
        for (int k = 0; k < 8; k++) {
            x.blank(k, 3 * k + 1);
        }
        for (int k = 0; k < 8; k++) {
            Check.due("states " + k, x.states(k), 3 * k + 1);
        }
    }
}
