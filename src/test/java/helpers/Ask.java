/** Ways to tell an object a text or a machine, and to ask it for all that it shows. */
final class Ask {
    /** Eight bytes that are an expression. */
    static final long PIECE = packed("(ab|c*)+");

    private Ask() {
    }

    /** Feeds a text, piece by piece, behind the one that is there. */
    static void feed(WordMachines x, String text) {
        for (int at = 0; at < text.length(); at += 8) {
            int n = Math.min(8, text.length() - at);
            x.feed(n, packed(text.substring(at, at + n)));
        }
    }

    static long packed(String text) {
        long bytes = 0;
        for (int t = text.length() - 1; t >= 0; t--) {
            bytes = bytes << 8 | text.charAt(t) & 0xff;
        }
        return bytes;
    }

    static void setText(WordMachines x, String text) {
        x.wipe();
        feed(x, text);
    }

    static int read(WordMachines x, int k, String text) {
        setText(x, text);
        return x.read(k);
    }

    static boolean takes(WordMachines x, int k, String word) {
        setText(x, word);
        return x.takes(k);
    }

    /** All states of a machine, each with what it is and its arcs. */
    static String machine(WordMachines x, int k) {
        StringBuilder all = new StringBuilder();
        for (int state = 0; state < x.states(k); state++) {
            all.append(state).append(':').append(x.arcs(k, state, 8));
            for (int letter = 0; letter < 8; letter++) {
                int goals = x.arcs(k, state, letter);
                for (int to = 0; to < 32; to++) {
                    if ((goals >>> to & 1) != 0) {
                        all.append(' ').append((char) ('a' + letter)).append(to);
                    }
                }
            }
            all.append("; ");
        }
        return all.toString().trim();
    }

    static String keptWord(WordMachines x) {
        int length = x.length();
        if (length == WordMachines.NONE) {
            return "none";
        }
        StringBuilder word = new StringBuilder("word ");
        for (int t = 0; t < length; t++) {
            word.append((char) ('a' + x.letter(t)));
        }
        return word.toString();
    }

    /** Which machines take the text. */
    static String takers(WordMachines x) {
        StringBuilder all = new StringBuilder();
        for (int k = 0; k < 8; k++) {
            all.append(x.takes(k) ? '1' : '0');
        }
        return all.toString();
    }
}
