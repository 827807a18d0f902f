/** Counts what a test checks; prints each answer that is not the one that is due. */
final class Check {
    static final int NOTHING = 0;
    static final int INDEX = 1;
    static final int ARGUMENT = 2;

    private static final String[] THROWN = {"nothing", "IndexOutOfBoundsException", "IllegalArgumentException"};
    private static int checked = 0;
    private static int wrong = 0;

    /** A call whose exception is looked at. */
    interface Call {
        void run();
    }

    private Check() {
    }

    static void due(String what, long got, long want) {
        checked++;
        if (got != want) {
            wrong++;
            System.out.println(what + " answered " + got + ", due is " + want);
        }
    }

    static void due(String what, boolean got, boolean want) {
        due(what, got ? 1 : 0, want ? 1 : 0);
    }

    static void due(String what, String got, String want) {
        checked++;
        if (!got.equals(want)) {
            wrong++;
            System.out.println(what + " answered " + got + ", due is " + want);
        }
    }

    static int thrownBy(Call call) {
        try {
            call.run();
        } catch (RuntimeException e) {
            if (e.getClass() == IndexOutOfBoundsException.class) {
                return INDEX;
            }
            if (e.getClass() == IllegalArgumentException.class) {
                return ARGUMENT;
            }
            throw e;
        }
        return NOTHING;
    }

    static void dueThrow(String what, int want, Call call) {
        due(what + " throws", THROWN[thrownBy(call)], THROWN[want]);
    }

    /** The call throws, and everything that can be asked answers what it did before. */
    static void dueThrowUnchanged(String what, int want, WordMachines x, Call call) {
        String before = Ask.everything(x);
        dueThrow(what, want, call);
        due("all that can be asked after " + what, Ask.everything(x), before);
    }

    static void end() {
        System.out.println(checked + " answers checked, " + wrong + " not as due");
        if (wrong != 0 || checked == 0) {
            System.exit(1);
        }
    }
}
