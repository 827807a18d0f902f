/** Objects and machines that more than one test needs. */
final class Tell {
    /** Machine numbers beside 0 to 7: the nearest ones, those that wrap around to one, the farthest. */
    static final int[] NO_MACHINES = {-1, 8, 9, 16, 256, 1 << 16, Integer.MIN_VALUE, Integer.MAX_VALUE};

    private Tell() {
    }

    /** Feeds one byte as often as that. */
    static void feedMany(WordMachines x, int size, char b) {
        Ask.feed(x, String.valueOf(b).repeat(size));
    }

    /** One word of n - 1 equal letters: state 0 is the start, the last one the end. */
    static void chain(WordMachines x, int k, int n, int letter) {
        x.blank(k, n);
        x.mark(k, 0, 1);
        x.mark(k, n - 1, n == 1 ? 3 : 2);
        for (int state = 0; state < n - 1; state++) {
            x.arc(k, state, letter, state + 1, true);
        }
    }

    /** Words of a letter whose length leaves the rest when divided by n. */
    static void ring(WordMachines x, int k, int n, int letter, int rest) {
        x.blank(k, n);
        x.mark(k, 0, 1);
        x.mark(k, rest, rest == 0 ? 3 : 2);
        for (int state = 0; state < n; state++) {
            x.arc(k, state, letter, (state + 1) % n, true);
        }
    }

    /** Eleven states, or n: a goes round, b drops state 0; all are starts. It comes to each set. */
    static void dropper(WordMachines x, int k, int n, int ends) {
        x.blank(k, n);
        for (int state = 0; state < n; state++) {
            x.mark(k, state, 1 | (ends >> state & 1) * 2);
            x.arc(k, state, 0, (state + 1) % n, true);
            x.arc(k, state, 1, state, state != 0);
        }
    }

    /** Machines of many sizes, a text, a fault and a kept word: all that a refused call could spoil. */
    static WordMachines rich() {
        WordMachines x = new WordMachines();
        chain(x, 0, 24, 7);
        ring(x, 1, 11, 0, 10);
        chain(x, 2, 12, 3);
        Ask.read(x, 3, "(ab|c+)+dh");
        x.mark(4, 0, 2);
        x.arc(4, 0, 5, 0, true);
        x.blank(5, 2);
        x.mark(5, 1, 3);
        x.arc(5, 1, 6, 0, true);
        ring(x, 6, 5, 1, 2);
        x.within(3, 1);
        Ask.read(x, 7, "ab[d-c]");
        Ask.setText(x, "a[b-d]*|(c.)?");
        return x;
    }
}
