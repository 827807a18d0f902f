/** Counts what a test checks; prints each answer that is not the one that is due. */
final class Check {
    static final int NOTHING = 0;
    static final int INDEX = 1;
    static final int ARGUMENT = 2;

    private static final String[] THROWN = {"nothing", "IndexOutOfBoundsException", "IllegalArgumentException"};
    private static int checked = 0;
    private static int wrong = 0;
    private static String running = "";

    /** A call whose exception is looked at. */
    interface Call {
        void run();
    }

    private Check() {
    }

    /** A test of its own for a sentence of the document, named by the promise that it stands under. */
    static void promise(int number, String sentence, Call test) {
        runTest("promise " + number + ", \"" + sentence + "\": ", test);
    }

    /** A test of its own for a sentence that stands before the promises. */
    static void terms(String sentence, Call test) {
        runTest("terms, \"" + sentence + "\": ", test);
    }

    private static void runTest(String name, Call test) {
        running = name;
        int before = checked;
        try {
            test.run();
        } catch (RuntimeException e) {
            tellWrong("broke off by " + e);
        }
        if (checked == before) {
            tellWrong("checked nothing");
        }
        running = "";
    }

    private static void tellWrong(String line) {
        wrong++;
        System.out.println(running + line);
    }

    static void due(String what, long got, long want) {
        checked++;
        if (got != want) {
            tellWrong(what + " answered " + got + ", due is " + want);
        }
    }

    static void due(String what, boolean got, boolean want) {
        due(what, got ? 1 : 0, want ? 1 : 0);
    }

    static void due(String what, String got, String want) {
        checked++;
        if (!got.equals(want)) {
            tellWrong(what + " answered " + got + ", due is " + want);
        }
    }

    static int thrownBy(Call call) {
        try {
            call.run();
        } catch (RuntimeException e) {
            if (e.getClass() == IndexOutOfBoundsException.class) {
                return INDEX;
            }
            if (e.getClass() == IllegalArgumentException.class) {
                return ARGUMENT;
            }
            throw e;
        }
        return NOTHING;
    }

    static void dueThrow(String what, int want, Call call) {
        due(what + " throws", THROWN[thrownBy(call)], THROWN[want]);
    }

    static void end() {
        System.out.println(checked + " answers checked, " + wrong + " not as due");
        if (wrong != 0 || checked == 0) {
            System.exit(1);
        }
    }
}
