/**
 * An object that some calls have been made on, the same whenever it is made; and what a refused
 * call leaves of it. An object is good for 512 calls, so each part is asked of a new one.
 */
final class Scene {
    /** Makes the object. */
    interface Maker {
        WordMachines make();
    }

    /** A call that should change nothing. */
    interface Act {
        void on(WordMachines x);
    }

    /** A call that should answer NONE. */
    interface NoneAct {
        int on(WordMachines x);
    }

    // Parts 0 to 7 are the machines.
    private static final int WORD = 8;
    private static final int FAULT = 9;
    private static final int TEXT = 10;
    private static final int PARTS = 11;

    private final Maker maker;
    private final String[] before = new String[PARTS];

    Scene(Maker maker) {
        this.maker = maker;
        for (int part = 0; part < PARTS; part++) {
            before[part] = look(maker.make(), part);
        }
    }

    private static String look(WordMachines x, int part) {
        switch (part) {
            case WORD:
                return Ask.keptWord(x) + ", taken by " + Ask.takers(x);
            case FAULT:
                return "fault " + x.fault() + " at " + x.place();
            case TEXT:
                int states = x.read(0);
                return "read " + states + ", fault " + x.fault() + " at " + x.place()
                        + (states == -1 ? "" : ", " + Ask.machine(x, 0)) + ", size " + x.wipe();
            default:
                return "machine " + part + " " + Ask.machine(x, part);
        }
    }

    void dueThrow(String what, int want, Act act) {
        for (int part = 0; part < PARTS; part++) {
            WordMachines x = maker.make();
            Check.dueThrow(what, want, () -> act.on(x));
            dueAsBefore(what, x, part);
        }
    }

    void dueNone(String what, NoneAct act) {
        for (int part = 0; part < PARTS; part++) {
            WordMachines x = maker.make();
            Check.due(what, act.on(x), -1);
            dueAsBefore(what, x, part);
        }
    }

    /** A read() that answers NONE changes fault() and place() alone. */
    void dueNoneOfRead(String what, NoneAct act) {
        for (int part = 0; part < PARTS; part++) {
            WordMachines x = maker.make();
            Check.due(what, act.on(x), -1);
            if (part != FAULT) {
                dueAsBefore(what, x, part);
            }
        }
    }

    /** A call that is not refused, but has nothing to change. */
    void dueNoChange(String what, Act act) {
        for (int part = 0; part < PARTS; part++) {
            dueAsBefore(what, after(act), part);
        }
    }

    /** A call that changes one machine alone (and so, perhaps, whether it takes the text). */
    void dueChangeOfMachineAlone(String what, int k, Act act) {
        for (int part = 0; part < PARTS; part++) {
            if (part != k && part != WORD) {
                dueAsBefore(what, after(act), part);
            }
        }
        dueWordAsBefore(what, act);
    }

    void dueChangeOfTextAlone(String what, Act act) {
        for (int part = 0; part < PARTS; part++) {
            if (part != TEXT && part != WORD) {
                dueAsBefore(what, after(act), part);
            }
        }
        dueWordAsBefore(what, act);
    }

    void dueChangeOfWordAlone(String what, Act act) {
        for (int part = 0; part < PARTS; part++) {
            if (part != WORD) {
                dueAsBefore(what, after(act), part);
            }
        }
        Check.due("who takes the text after " + what, Ask.takers(after(act)), Ask.takers(maker.make()));
    }

    private WordMachines after(Act act) {
        WordMachines x = maker.make();
        act.on(x);
        return x;
    }

    private void dueWordAsBefore(String what, Act act) {
        Check.due("the kept word after " + what, Ask.keptWord(after(act)), Ask.keptWord(maker.make()));
    }

    private void dueAsBefore(String what, WordMachines x, int part) {
        Check.due("what can be asked after " + what, look(x, part), before[part]);
    }
}
