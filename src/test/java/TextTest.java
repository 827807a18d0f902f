/** Promises 1 to 3: a new object, feed, wipe. */
public final class TextTest {
    public static void main(String[] args) {
        newObject();
        feedAnswersSize();
        feedTakesLowestFirst();
        feedTakesOnlyN();
        feedUpTo200();
        wipeEmpties();
        objectsAreApart();
        Check.end();
    }

    private static void newObject() {
        WordMachines x = new WordMachines();
        for (int k = 0; k < 8; k++) {
            Check.due("new machine " + k, Ask.machine(x, k), "0:0;");
            Check.due("new takes " + k, x.takes(k), false);
            Check.due("new sets " + k, x.sets(k), 1);
            Check.due("new rests " + k, x.rests(k), 1);
            Check.due("new words " + k, x.words(k, 0), 0);
        }
        Check.due("new fault", x.fault(), 0);
        Check.due("new place", x.place(), -1);
        Check.due("new length", x.length(), -1);
        Check.dueThrow("new letter(0)", Check.INDEX, () -> x.letter(0));
        Check.due("new wipe", x.wipe(), 0);
        Check.due("NONE", WordMachines.NONE, -1);
    }

    private static void feedAnswersSize() {
        WordMachines x = new WordMachines();
        int size = 0;
        for (int n = 1; n <= 8; n++) {
            size += n;
            Check.due("feed " + n, x.feed(n, -1L), size);
        }
        Check.due("wipe behind feeds", x.wipe(), 36);
    }

    private static void feedTakesLowestFirst() {
        WordMachines x = new WordMachines();
        Check.due("read abcdefgh", Ask.read(x, 0, "abcdefgh"), 9);
        x.wipe();
        x.feed(8, 0x6867666564636261L);
        Check.due("takes the word as fed", x.takes(0), true);
        x.wipe();
        x.feed(8, 0x6162636465666768L);
        Check.due("takes the word the other way", x.takes(0), false);
        x.wipe();
        x.feed(3, Ask.packed("abc"));
        x.feed(5, Ask.packed("defgh"));
        Check.due("takes the word in two pieces", x.takes(0), true);
    }

    private static void feedTakesOnlyN() {
        WordMachines x = new WordMachines();
        Ask.read(x, 0, "ab");
        x.wipe();
        Check.due("feed two of eight", x.feed(2, 0xffffffffffff6261L), 2);
        Check.due("takes two of eight", x.takes(0), true);
        x.wipe();
        Check.due("feed with the highest bit set", x.feed(8, 0x8062626262626262L), 8);
        Check.due("read a byte over 127", x.read(1), -1);
        Check.due("place of a byte over 127", x.place(), 7);
    }

    private static void feedUpTo200() {
        WordMachines x = new WordMachines();
        Ask.read(x, 0, "a*");
        x.wipe();
        for (int t = 0; t < 24; t++) {
            x.feed(8, Ask.packed("aaaaaaaa"));
        }
        Check.due("feed to 197", x.feed(5, Ask.packed("aaaaa")), 197);
        Check.due("feed 4 behind 197", x.feed(4, Ask.packed("bbbb")), -1);
        Check.due("feed 8 behind 197", x.feed(8, Ask.packed("bbbbbbbb")), -1);
        Check.due("takes 197", x.takes(0), true);
        Check.due("feed 3 behind 197", x.feed(3, Ask.packed("aaa")), 200);
        Check.due("takes 200", x.takes(0), true);
        Check.due("feed 1 behind 200", x.feed(1, 'a'), -1);
        Check.dueThrow("feed(0) at 200", Check.ARGUMENT, () -> x.feed(0, 0));
        Check.dueThrow("feed(9) at 200", Check.ARGUMENT, () -> x.feed(9, 0));
        Check.due("takes 200 still", x.takes(0), true);
        Check.due("wipe 200", x.wipe(), 200);
        Check.due("feed behind wipe", x.feed(1, 'a'), 1);
    }

    private static void wipeEmpties() {
        WordMachines x = new WordMachines();
        Ask.read(x, 0, "a");
        Check.due("takes a", x.takes(0), true);
        String machine = Ask.machine(x, 0);
        Check.due("wipe 1", x.wipe(), 1);
        Check.due("takes nothing", x.takes(0), false);
        Check.due("wipe again", x.wipe(), 0);
        Check.due("read of the empty text", x.read(1), 1);
        Check.due("machine of the empty text", Ask.machine(x, 1), "0:3;");
        Check.due("the machine stays when the text is wiped", Ask.machine(x, 0), machine);
        Ask.read(x, 2, "aa*)");
        x.wipe();
        Check.due("fault stays when the text is wiped", x.fault(), 1);
        Check.due("place stays when the text is wiped", x.place(), 3);
        x.feed(1, 'a');
        Check.due("fault stays when the text is fed", x.fault(), 1);
    }

    private static void objectsAreApart() {
        WordMachines x = new WordMachines();
        WordMachines y = new WordMachines();
        Ask.read(x, 0, "ab|");
        Check.due("another object's text", y.wipe(), 0);
        Check.due("another object's machine", Ask.machine(y, 0), "0:0;");
        Check.due("own text", x.wipe(), 3);
    }
}
