import java.util.BitSet;
import java.util.Random;

/** An expression as a tree: written as a text, and which words belong to it by the places where they can end. */
abstract class Shape {
    abstract String text();

    /** The places behind the shape when it begins at one of these places of the word. */
    abstract BitSet behind(String word, BitSet places);

    boolean has(String word) {
        BitSet begin = new BitSet();
        begin.set(0);
        return behind(word, begin).get(word.length());
    }

    static Shape byChance(Random random, int depth) {
        Shape made = row(random, depth);
        for (int more = random.nextInt(3); more > 0; more--) {
            made = new Parts(made, row(random, depth));
        }
        return made;
    }

    private static Shape row(Random random, int depth) {
        Shape made = new Row(null, null);
        for (int things = random.nextInt(4); things > 0; things--) {
            made = new Row(made, thing(random, depth));
        }
        return made;
    }

    private static Shape thing(Random random, int depth) {
        Shape made;
        if (depth > 0 && random.nextInt(3) == 0) {
            made = new Closed(byChance(random, depth - 1));
        } else {
            made = Atom.byChance(random);
        }
        for (int signs = random.nextInt(3); signs > 0; signs--) {
            made = new Signed(made, "*+?".charAt(random.nextInt(3)));
        }
        return made;
    }

    private static final class Atom extends Shape {
        private final String written;
        private final String letters;

        private Atom(String written, String letters) {
            this.written = written;
            this.letters = letters;
        }

        static Atom byChance(Random random) {
            switch (random.nextInt(7)) {
                case 0:
                    return new Atom(".", "abcdefgh");
                case 1:
                    return new Atom("[a-b]", "ab");
                case 2:
                    return new Atom("[^bd-f]", "acgh");
                case 3:
                    return new Atom("[ca]", "ac");
                default:
                    String letter = "abc".substring(random.nextInt(3)).substring(0, 1);
                    return new Atom(letter, letter);
            }
        }

        @Override
        String text() {
            return written;
        }

        @Override
        BitSet behind(String word, BitSet places) {
            BitSet all = new BitSet();
            for (int at = 0; at < word.length(); at++) {
                if (places.get(at) && letters.indexOf(word.charAt(at)) >= 0) {
                    all.set(at + 1);
                }
            }
            return all;
        }
    }

    private static final class Closed extends Shape {
        private final Shape inner;

        private Closed(Shape inner) {
            this.inner = inner;
        }

        @Override
        String text() {
            return "(" + inner.text() + ")";
        }

        @Override
        BitSet behind(String word, BitSet places) {
            return inner.behind(word, places);
        }
    }

    private static final class Row extends Shape {
        private final Shape former;
        private final Shape latter;

        private Row(Shape former, Shape latter) {
            this.former = former;
            this.latter = latter;
        }

        @Override
        String text() {
            return former == null ? "" : former.text() + latter.text();
        }

        @Override
        BitSet behind(String word, BitSet places) {
            return former == null ? places : latter.behind(word, former.behind(word, places));
        }
    }

    private static final class Parts extends Shape {
        private final Shape one;
        private final Shape other;

        private Parts(Shape one, Shape other) {
            this.one = one;
            this.other = other;
        }

        @Override
        String text() {
            return one.text() + "|" + other.text();
        }

        @Override
        BitSet behind(String word, BitSet places) {
            BitSet all = (BitSet) one.behind(word, places).clone();
            all.or(other.behind(word, places));
            return all;
        }
    }

    private static final class Signed extends Shape {
        private final Shape inner;
        private final char sign;

        private Signed(Shape inner, char sign) {
            this.inner = inner;
            this.sign = sign;
        }

        @Override
        String text() {
            return inner.text() + sign;
        }

        @Override
        BitSet behind(String word, BitSet places) {
            BitSet all = (BitSet) inner.behind(word, places).clone();
            if (sign != '?') {
                BitSet before = places;
                while (!all.equals(before)) {
                    before = (BitSet) all.clone();
                    all.or(inner.behind(word, all));
                }
            }
            if (sign != '+') {
                all.or(places);
            }
            return all;
        }
    }
}
