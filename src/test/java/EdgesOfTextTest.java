/** The edges of promises 1 to 3 (a new object, feed, wipe), and of the text. */
public final class EdgesOfTextTest {
    public static void main(String[] args) {
        Check.terms("An object is used for at most 512 calls", EdgesOfTextTest::the512thCall);
        Check.terms("THE TEXT is a row of up to 200 bytes", EdgesOfTextTest::textOf200Bytes);
        Check.terms("MACHINES 0 to 7", EdgesOfTextTest::machines0To7);

        Check.promise(1, "An empty text", EdgesOfTextTest::newText);
        Check.promise(1, "machines have one state each", EdgesOfTextTest::newStates);
        Check.promise(1, "no starts, ends", EdgesOfTextTest::newMarks);
        Check.promise(1, "and arcs", EdgesOfTextTest::newArcs);
        Check.promise(1, "An empty text; machines have one state each", EdgesOfTextTest::newAfterAnother);

        Check.promise(2, "The n lowest bytes of a long", EdgesOfTextTest::feedNOfEight);
        Check.promise(2, "The n lowest bytes of a long", EdgesOfTextTest::feedAnyBytes);
        Check.promise(2, "the lowest first", EdgesOfTextTest::feedLowestFirst);
        Check.promise(2, "come behind the text", EdgesOfTextTest::feedBehind);
        Check.promise(2, "Answers how many it has", EdgesOfTextTest::feedOneByOne);
        Check.promise(2, "Answers how many it has", EdgesOfTextTest::feedEightByEight);
        Check.promise(2, "NONE when there would be more than 200", EdgesOfTextTest::feedTo200And201);
        Check.promise(2, "NONE when there would be more than 200", EdgesOfTextTest::feedBehind200);
        Check.promise(2, "answers NONE, changes nothing", EdgesOfTextTest::feedNoneChangesNothing);
        Check.promise(2, "answers NONE, changes nothing", EdgesOfTextTest::feedAfterNone);
        Check.promise(2, "IllegalArgumentException: n is not 1 to 8", EdgesOfTextTest::feed1And8);
        Check.promise(2, "IllegalArgumentException: n is not 1 to 8", EdgesOfTextTest::feedWrong);
        Check.promise(2, "IllegalArgumentException: n is not 1 to 8", EdgesOfTextTest::feedWrongWhenFull);
        Check.promise(2, "come behind the text", EdgesOfTextTest::feedChangesTheTextAlone);

        Check.promise(3, "The text is empty then", EdgesOfTextTest::wipeLeavesNothing);
        Check.promise(3, "The text is empty then", EdgesOfTextTest::wipeMakesRoom);
        Check.promise(3, "Answers how many bytes it had", EdgesOfTextTest::wipeAnswers);
        Check.promise(3, "The text is empty then", EdgesOfTextTest::wipeChangesTheTextAlone);
        Check.end();
    }

    private static WordMachines withText(int size, char b) {
        WordMachines x = new WordMachines();
        Tell.feedMany(x, size, b);
        return x;
    }

    private static void the512thCall() {
        WordMachines x = new WordMachines();
        Tell.dropper(x, 1, 11, 1);
        Tell.chain(x, 0, 24, 0);
        // The two machines took 34 and 26 calls.
        for (int call = 61; call <= 508; call++) {
            Check.due("call " + call, call % 2 == 0 ? x.rests(1) : x.sets(1), 2048);
        }
        Check.due("call 509", x.within(0, 2), false);
        Check.due("call 510", x.length(), 23);
        Check.due("call 511", x.letter(22), 0);
        Check.due("call 512", x.words(1, 20), wordsOfTheDropper());
    }

    /** The dropper's sets as bits, told once more: a turns them round, b drops state 0, others drop all. */
    private static long wordsOfTheDropper() {
        long[] counts = new long[1 << 11];
        counts[(1 << 11) - 1] = 1;
        for (int t = 0; t < 20; t++) {
            long[] next = new long[1 << 11];
            for (int set = 0; set < 1 << 11; set++) {
                next[(set << 1 | set >> 10) & (1 << 11) - 1] += counts[set];
                next[set & ~1] += counts[set];
                next[0] += 6 * counts[set];
            }
            counts = next;
        }
        long sum = 0;
        for (int set = 1; set < 1 << 11; set += 2) {
            sum += counts[set];
        }
        return sum;
    }

    private static void textOf200Bytes() {
        WordMachines x = new WordMachines();
        Ask.read(x, 0, "a*");
        x.wipe();
        Tell.feedMany(x, 192, 'a');
        Check.due("feed to 200", x.feed(8, Ask.packed("aaaaaaaa")), 200);
        Check.due("a word of 200", x.takes(0), true);
        Check.due("one more", x.feed(1, 'a'), -1);
        Check.due("bytes that the text had", x.wipe(), 200);
    }

    private static void machines0To7() {
        for (int k = 0; k <= 7; k++) {
            WordMachines x = new WordMachines();
            x.blank(k, k + 2);
            for (int other = 0; other <= 7; other++) {
                Check.due("states of " + other, x.states(other), other == k ? k + 2 : 1);
            }
            Check.dueThrow("states(8)", Check.INDEX, () -> x.states(8));
            Check.dueThrow("states(-1)", Check.INDEX, () -> x.states(-1));
        }
    }

    private static void newText() {
        Check.due("wipe", new WordMachines().wipe(), 0);
        Check.due("first feed", new WordMachines().feed(1, 'a'), 1);
        WordMachines x = new WordMachines();
        Check.due("read", x.read(7), 1);
        Check.due("machine of the empty text", Ask.machine(x, 7), "0:3;");
        Check.due("the empty text as a word", x.takes(7), true);
    }

    private static void newStates() {
        WordMachines x = new WordMachines();
        for (int k = 0; k < 8; k++) {
            int machine = k;
            Check.due("states of " + k, x.states(k), 1);
            Check.dueThrow("state 1 of " + k, Check.INDEX, () -> x.arcs(machine, 1, 8));
        }
    }

    private static void newMarks() {
        WordMachines x = new WordMachines();
        for (int k = 0; k < 8; k++) {
            Check.due("marks of " + k, x.arcs(k, 0, 8), 0);
            Check.due("the empty word, by " + k, x.takes(k), false);
            Check.due("sets of " + k, x.sets(k), 1);
        }
    }

    private static void newArcs() {
        WordMachines x = new WordMachines();
        for (int k = 0; k < 8; k++) {
            for (int letter = 0; letter < 8; letter++) {
                Check.due("arcs of " + k + " with " + letter, x.arcs(k, 0, letter), 0);
            }
        }
    }

    private static void newAfterAnother() {
        WordMachines older = Tell.rich();
        WordMachines x = new WordMachines();
        for (int k = 0; k < 8; k++) {
            Check.due("machine " + k, Ask.machine(x, k), "0:0;");
        }
        Check.due("fault", x.fault(), 0);
        Check.due("place", x.place(), -1);
        Check.due("length", x.length(), -1);
        Check.due("wipe", x.wipe(), 0);
        Check.due("the older one's text", older.wipe(), 13);
    }

    private static void feedNOfEight() {
        for (int n = 1; n <= 8; n++) {
            WordMachines x = new WordMachines();
            Ask.read(x, 0, "abcdefgh".substring(0, n));
            x.wipe();
            Check.due("feed " + n, x.feed(n, Ask.packed("abcdefgh")), n);
            Check.due("takes the first " + n, x.takes(0), true);
        }
    }

    private static void feedAnyBytes() {
        for (long bytes : new long[] {0L, -1L, Long.MIN_VALUE, Long.MAX_VALUE, 0x00ff00ff00ff00ffL}) {
            WordMachines x = new WordMachines();
            Check.due("feed eight of " + bytes, x.feed(8, bytes), 8);
            Check.due("read " + bytes, x.read(0), -1);
            Check.due("place in " + bytes, x.place(), 0);
            Check.due("wipe " + bytes, x.wipe(), 8);
        }
        WordMachines x = new WordMachines();
        x.feed(8, Ask.packed("abcdefgh") | 0x80L << 56);
        Check.due("read a letter with the highest bit", x.read(0), -1);
        Check.due("place of a letter with the highest bit", x.place(), 7);
    }

    private static void feedLowestFirst() {
        WordMachines x = new WordMachines();
        Ask.read(x, 0, "ab");
        x.wipe();
        x.feed(2, 0x6261L);
        Check.due("takes the lowest first", x.takes(0), true);
        x.wipe();
        x.feed(2, 0x6162L);
        Check.due("takes the highest first", x.takes(0), false);
    }

    private static void feedBehind() {
        WordMachines x = new WordMachines();
        Ask.read(x, 0, "ab");
        x.wipe();
        x.feed(1, 'a');
        x.feed(1, 'b');
        Check.due("takes a, then b", x.takes(0), true);
        x.wipe();
        x.feed(1, 'b');
        x.feed(1, 'a');
        Check.due("takes b, then a", x.takes(0), false);
    }

    private static void feedOneByOne() {
        WordMachines x = new WordMachines();
        for (int size = 1; size <= 200; size++) {
            Check.due("feed to " + size, x.feed(1, 'a'), size);
        }
        Check.due("feed to 201", x.feed(1, 'a'), -1);
    }

    private static void feedEightByEight() {
        WordMachines x = new WordMachines();
        for (int size = 8; size <= 200; size += 8) {
            Check.due("feed to " + size, x.feed(8, Ask.packed("aaaaaaaa")), size);
        }
        Check.due("feed to 208", x.feed(8, Ask.packed("aaaaaaaa")), -1);
    }

    private static void feedTo200And201() {
        for (int n = 1; n <= 8; n++) {
            Check.due(n + " behind " + (200 - n), withText(200 - n, 'a').feed(n, 0), 200);
            Check.due(n + " behind " + (201 - n), withText(201 - n, 'a').feed(n, 0), -1);
        }
    }

    private static void feedBehind200() {
        for (int n = 1; n <= 8; n++) {
            WordMachines x = withText(200, 'a');
            Check.due(n + " behind 200", x.feed(n, 0), -1);
            Check.due("wipe", x.wipe(), 200);
        }
    }

    private static void feedNoneChangesNothing() {
        Scene full = new Scene(() -> {
            WordMachines x = Tell.rich();
            Tell.feedMany(x, 182, '*');
            return x;
        });
        full.dueNone("feed 6 behind 195", x -> x.feed(6, Ask.packed("abcdef")));
        full.dueNone("feed 8 behind 195", x -> x.feed(8, Ask.packed("abcdefgh")));
    }

    private static void feedAfterNone() {
        WordMachines x = new WordMachines();
        Ask.read(x, 0, "a*");
        x.wipe();
        Tell.feedMany(x, 197, 'a');
        Check.due("feed 4 behind 197", x.feed(4, Ask.packed("bbbb")), -1);
        Check.due("takes 197", x.takes(0), true);
        Check.due("feed 2 behind 197", x.feed(2, Ask.packed("aa")), 199);
        Check.due("feed 2 behind 199", x.feed(2, Ask.packed("bb")), -1);
        Check.due("feed 1 behind 199", x.feed(1, 'a'), 200);
        Check.due("takes 200", x.takes(0), true);
        Check.due("feed 1 behind 200", x.feed(1, 'b'), -1);
        Check.due("takes 200 still", x.takes(0), true);
        Check.due("wipe", x.wipe(), 200);
    }

    private static void feed1And8() {
        Check.due("feed 1", new WordMachines().feed(1, -1L), 1);
        Check.due("feed 8", new WordMachines().feed(8, -1L), 8);
    }

    private static final int[] WRONG_SIZES = {0, 9, -1, -8, 10, 16, 64, 257, 1 << 16, Integer.MIN_VALUE,
        Integer.MAX_VALUE, Integer.MIN_VALUE + 1, Integer.MAX_VALUE - 7};

    private static void feedWrong() {
        Scene scene = new Scene(Tell::rich);
        for (int n : WRONG_SIZES) {
            scene.dueThrow("feed(" + n + ")", Check.ARGUMENT, x -> x.feed(n, Ask.packed("abcdefgh")));
        }
        Scene fresh = new Scene(WordMachines::new);
        fresh.dueThrow("feed(0) when new", Check.ARGUMENT, x -> x.feed(0, 0));
        fresh.dueThrow("feed(9) when new", Check.ARGUMENT, x -> x.feed(9, 0));
    }

    private static void feedWrongWhenFull() {
        Scene full = new Scene(() -> withText(200, '|'));
        for (int n : WRONG_SIZES) {
            full.dueThrow("feed(" + n + ") at 200", Check.ARGUMENT, x -> x.feed(n, 0));
        }
        Scene nearlyFull = new Scene(() -> withText(199, '|'));
        nearlyFull.dueThrow("feed(0) at 199", Check.ARGUMENT, x -> x.feed(0, 0));
        nearlyFull.dueThrow("feed(9) at 199", Check.ARGUMENT, x -> x.feed(9, 0));
    }

    private static void feedChangesTheTextAlone() {
        new Scene(Tell::rich).dueChangeOfTextAlone("feed", x -> x.feed(3, Ask.packed("*|a")));
    }

    private static void wipeLeavesNothing() {
        WordMachines x = withText(200, 'a');
        x.wipe();
        Check.due("wipe again", x.wipe(), 0);
        Check.due("read the empty text", x.read(0), 1);
        Check.due("machine of the empty text", Ask.machine(x, 0), "0:3;");
        Check.due("takes the empty text", x.takes(0), true);
        x.feed(1, 'b');
        Check.due("read one byte", x.read(0), 2);
        Check.due("machine of that byte", Ask.machine(x, 0), "0:1 b1; 1:2;");
    }

    private static void wipeMakesRoom() {
        WordMachines x = withText(200, 'a');
        x.wipe();
        for (int size = 8; size <= 200; size += 8) {
            Check.due("feed to " + size + " once more", x.feed(8, 0), size);
        }
        Check.due("feed to 201 once more", x.feed(1, 0), -1);
        Check.due("wipe once more", x.wipe(), 200);
    }

    private static void wipeAnswers() {
        for (int size : new int[] {0, 1, 7, 8, 9, 127, 128, 199, 200}) {
            WordMachines x = withText(size, 'a');
            Check.due("wipe of " + size, x.wipe(), size);
            Check.due("wipe again", x.wipe(), 0);
        }
    }

    private static void wipeChangesTheTextAlone() {
        new Scene(Tell::rich).dueChangeOfTextAlone("wipe", WordMachines::wipe);
    }
}
