/** What is due when a text is read. */
final class Reading {
    private Reading() {
    }

    /** The text has no fault, and this machine. */
    static void dueMachine(String text, String want) {
        WordMachines x = new WordMachines();
        Check.due("read " + text, Ask.read(x, 3, text), want.split(";").length);
        Check.due("machine of " + text, Ask.machine(x, 3), want);
        Check.due("fault of " + text, x.fault(), 0);
        Check.due("place of " + text, x.place(), -1);
    }

    /** The text is one atom that stands for these letters. */
    static void dueLetters(String text, String want) {
        WordMachines x = new WordMachines();
        Check.due("read " + text, Ask.read(x, 0, text), 2);
        StringBuilder got = new StringBuilder();
        for (int letter = 0; letter < 8; letter++) {
            if (x.arcs(0, 0, letter) == 2) {
                got.append((char) ('a' + letter));
            }
        }
        Check.due("letters of " + text, got.toString(), want);
        Check.due("the atom of " + text + " is no end of its own", x.arcs(0, 0, 8), 1);
        Check.due("the atom of " + text + " has an end", x.arcs(0, 1, 8), 2);
    }

    /** The text has this fault there; machine and text stay. */
    static void dueFault(String text, int kind, int place) {
        WordMachines x = new WordMachines();
        Ask.read(x, 2, "ab");
        String before = Ask.machine(x, 2);
        Check.due("read " + text, Ask.read(x, 2, text), -1);
        Check.due("fault of " + text, x.fault(), kind);
        Check.due("place of " + text, x.place(), place);
        Check.due("machine behind " + text, Ask.machine(x, 2), before);
        Check.due("text behind " + text, x.wipe(), text.length());
    }

    /** The text has no fault, and a machine of so many states. */
    static void dueStates(String text, int want) {
        WordMachines x = new WordMachines();
        Check.due("read " + text, Ask.read(x, 2, text), want);
        Check.due("states of " + text, x.states(2), want);
        Check.due("fault of " + text, x.fault(), 0);
        Check.due("place of " + text, x.place(), -1);
    }
}
