import java.math.BigInteger;
import java.util.ArrayDeque;
import java.util.ArrayList;
import java.util.Arrays;
import java.util.BitSet;
import java.util.HashMap;
import java.util.HashSet;
import java.util.LinkedHashMap;
import java.util.List;
import java.util.Map;
import java.util.Set;
import java.util.TreeSet;

/** The document once more, written slowly and in another way: what WordMachines is compared with. */
final class NaiveMachines {
    static final class Machine {
        final int count;
        final Set<Integer> starts = new TreeSet<>();
        final Set<Integer> ends = new TreeSet<>();
        final Set<List<Integer>> arcs = new HashSet<>();

        Machine(int count) {
            this.count = count;
        }

        Set<Integer> goals(Set<Integer> from, int letter) {
            Set<Integer> goals = new TreeSet<>();
            for (int to = 0; to < count; to++) {
                for (int state : from) {
                    if (arcs.contains(List.of(state, letter, to))) {
                        goals.add(to);
                    }
                }
            }
            return goals;
        }

        boolean hasEnd(Set<Integer> set) {
            for (int state : set) {
                if (ends.contains(state)) {
                    return true;
                }
            }
            return false;
        }
    }

    /** A fault carries itself out of the parser. */
    static final class Fault extends Exception {
        private static final long serialVersionUID = 1L;
        final int kind;
        final int place;

        Fault(int kind, int place) {
            this.kind = kind;
            this.place = place;
        }
    }

    private static final class Facts {
        boolean belongs = true;
        Set<Integer> first = new TreeSet<>();
        Set<Integer> last = new TreeSet<>();
    }

    /** Recursive descent over the text; follows the document's grammar line by line. */
    private static final class Parser {
        private final String text;
        private int at = 0;
        private int open = 0;
        private final List<BitSet> letters = new ArrayList<>();
        private final Set<List<Integer>> pairs = new HashSet<>();

        Parser(String text) {
            this.text = text;
            letters.add(new BitSet());
        }

        Machine machine() throws Fault {
            Facts whole = expression();
            if (at < text.length()) {
                throw new Fault(1, at);
            }
            for (int to : whole.first) {
                pairs.add(List.of(0, to));
            }
            Machine machine = new Machine(letters.size());
            machine.starts.add(0);
            machine.ends.addAll(whole.last);
            if (whole.belongs) {
                machine.ends.add(0);
            }
            for (List<Integer> pair : pairs) {
                for (int letter = 0; letter < 8; letter++) {
                    if (letters.get(pair.get(1)).get(letter)) {
                        machine.arcs.add(List.of(pair.get(0), letter, pair.get(1)));
                    }
                }
            }
            return machine;
        }

        private boolean sees(String bytes) {
            return at < text.length() && bytes.indexOf(text.charAt(at)) >= 0;
        }

        private Facts expression() throws Fault {
            Facts whole = part();
            while (sees("|")) {
                at++;
                Facts next = part();
                whole.belongs |= next.belongs;
                whole.first.addAll(next.first);
                whole.last.addAll(next.last);
            }
            return whole;
        }

        private Facts part() throws Fault {
            Facts row = new Facts();
            while (sees("abcdefgh.[(")) {
                Facts next = thing();
                linkAll(row.last, next.first);
                if (row.belongs) {
                    row.first.addAll(next.first);
                }
                Set<Integer> last = new TreeSet<>(next.last);
                if (next.belongs) {
                    last.addAll(row.last);
                }
                row.last = last;
                row.belongs &= next.belongs;
            }
            return row;
        }

        private Facts thing() throws Fault {
            Facts facts = atom();
            while (sees("*+?")) {
                char sign = text.charAt(at++);
                if (sign == '*' || sign == '+') {
                    linkAll(facts.last, facts.first);
                }
                if (sign == '*' || sign == '?') {
                    facts.belongs = true;
                }
            }
            return facts;
        }

        private void linkAll(Set<Integer> from, Set<Integer> to) {
            for (int one : from) {
                for (int other : to) {
                    pairs.add(List.of(one, other));
                }
            }
        }

        private Facts atom() throws Fault {
            char c = text.charAt(at);
            if (c == '(') {
                return inParentheses();
            }
            if (letters.size() == 24) {
                throw new Fault(2, at);
            }
            BitSet set = new BitSet();
            letters.add(set);
            int state = letters.size() - 1;
            at++;
            if (c == '[') {
                bracket(set);
            } else if (c == '.') {
                set.set(0, 8);
            } else {
                set.set(c - 'a');
            }
            Facts facts = new Facts();
            facts.belongs = false;
            facts.first.add(state);
            facts.last.add(state);
            return facts;
        }

        private Facts inParentheses() throws Fault {
            if (open == 20) {
                throw new Fault(3, at);
            }
            open++;
            at++;
            Facts facts = expression();
            if (!sees(")")) {
                throw new Fault(1, at);
            }
            at++;
            open--;
            return facts;
        }

        private void bracket(BitSet set) throws Fault {
            boolean not = sees("^");
            if (not) {
                at++;
            }
            do {
                int first = oneLetter();
                int second = first;
                if (sees("-")) {
                    at++;
                    second = oneLetter();
                    if (second < first) {
                        throw new Fault(4, at - 1);
                    }
                }
                set.set(first, second + 1);
            } while (!sees("]") && sees("abcdefgh"));
            if (!sees("]")) {
                throw new Fault(1, at);
            }
            at++;
            if (not) {
                set.flip(0, 8);
            }
        }

        private int oneLetter() throws Fault {
            if (!sees("abcdefgh")) {
                throw new Fault(1, at);
            }
            return text.charAt(at++) - 'a';
        }
    }

    String text = "";
    final Machine[] machines = new Machine[8];
    int fault = 0;
    int place = -1;
    String kept = null;

    NaiveMachines() {
        Arrays.setAll(machines, k -> new Machine(1));
    }

    private static void index(boolean is) {
        if (!is) {
            throw new IndexOutOfBoundsException();
        }
    }

    private static void argument(boolean is) {
        if (!is) {
            throw new IllegalArgumentException();
        }
    }

    private Machine at(int k) {
        index(k >= 0 && k <= 7);
        return machines[k];
    }

    int feed(int n, long bytes) {
        argument(n >= 1 && n <= 8);
        if (text.length() + n > 200) {
            return -1;
        }
        for (int t = 0; t < n; t++) {
            text += (char) (bytes >> 8 * t & 255);
        }
        return text.length();
    }

    int wipe() {
        int had = text.length();
        text = "";
        return had;
    }

    int read(int k) {
        at(k);
        try {
            machines[k] = new Parser(text).machine();
            fault = 0;
            place = -1;
            return machines[k].count;
        } catch (Fault f) {
            fault = f.kind;
            place = f.place;
            return -1;
        }
    }

    void blank(int k, int n) {
        at(k);
        argument(n >= 1 && n <= 24);
        machines[k] = new Machine(n);
    }

    void mark(int k, int state, int what) {
        Machine m = at(k);
        index(state >= 0 && state < m.count);
        argument(what >= 0 && what <= 3);
        m.starts.remove(state);
        m.ends.remove(state);
        if (what % 2 == 1) {
            m.starts.add(state);
        }
        if (what >= 2) {
            m.ends.add(state);
        }
    }

    boolean arc(int k, int from, int letter, int to, boolean is) {
        Machine m = at(k);
        index(from >= 0 && from < m.count && to >= 0 && to < m.count);
        argument(letter >= 0 && letter <= 7);
        List<Integer> arc = List.of(from, letter, to);
        return is ? !m.arcs.add(arc) : m.arcs.remove(arc);
    }

    int arcs(int k, int from, int letter) {
        Machine m = at(k);
        index(from >= 0 && from < m.count);
        argument(letter >= 0 && letter <= 8);
        if (letter == 8) {
            return (m.starts.contains(from) ? 1 : 0) + (m.ends.contains(from) ? 2 : 0);
        }
        int bits = 0;
        for (int to : m.goals(Set.of(from), letter)) {
            bits += 1 << to;
        }
        return bits;
    }

    int states(int k) {
        return at(k).count;
    }

    void turn(int k, int i) {
        at(k);
        machines[k] = turned(at(i));
    }

    private static Machine turned(Machine m) {
        Machine made = new Machine(m.count);
        made.starts.addAll(m.ends);
        made.ends.addAll(m.starts);
        for (List<Integer> arc : m.arcs) {
            made.arcs.add(List.of(arc.get(2), arc.get(1), arc.get(0)));
        }
        return made;
    }

    int either(int k, int i, int j) {
        at(k);
        Machine a = at(i);
        Machine b = at(j);
        if (a.count + b.count > 24) {
            return -1;
        }
        Machine made = new Machine(a.count + b.count);
        made.starts.addAll(a.starts);
        made.ends.addAll(a.ends);
        made.arcs.addAll(a.arcs);
        b.starts.forEach(y -> made.starts.add(a.count + y));
        b.ends.forEach(y -> made.ends.add(a.count + y));
        b.arcs.forEach(c -> made.arcs.add(List.of(a.count + c.get(0), c.get(1), a.count + c.get(2))));
        machines[k] = made;
        return made.count;
    }

    int both(int k, int i, int j) {
        at(k);
        Machine a = at(i);
        Machine b = at(j);
        int n = b.count;
        if (a.count * n > 24) {
            return -1;
        }
        Machine made = new Machine(a.count * n);
        a.starts.forEach(x -> b.starts.forEach(y -> made.starts.add(x * n + y)));
        a.ends.forEach(x -> b.ends.forEach(y -> made.ends.add(x * n + y)));
        for (List<Integer> c : a.arcs) {
            for (List<Integer> d : b.arcs) {
                if (c.get(1).equals(d.get(1))) {
                    made.arcs.add(List.of(c.get(0) * n + d.get(0), c.get(1), c.get(2) * n + d.get(2)));
                }
            }
        }
        machines[k] = made;
        return made.count;
    }

    boolean takes(int k) {
        Machine m = at(k);
        Set<Integer> set = m.starts;
        for (char c : text.toCharArray()) {
            if (c < 'a' || c > 'h') {
                return false;
            }
            set = m.goals(set, c - 'a');
        }
        return m.hasEnd(set);
    }

    /** Both machines by sets, breadth first: the words come in their order by themselves. */
    boolean within(int i, int j) {
        Machine a = at(i);
        Machine b = at(j);
        argument(b.count <= 11);
        Map<List<Set<Integer>>, String> words = new HashMap<>();
        ArrayDeque<List<Set<Integer>>> todo = new ArrayDeque<>();
        List<Set<Integer>> begin = List.of(a.starts, b.starts);
        words.put(begin, "");
        todo.add(begin);
        while (!todo.isEmpty()) {
            List<Set<Integer>> now = todo.remove();
            if (a.hasEnd(now.get(0)) && !b.hasEnd(now.get(1))) {
                kept = words.get(now);
                return false;
            }
            for (int letter = 0; letter < 8; letter++) {
                List<Set<Integer>> next = List.of(a.goals(now.get(0), letter), b.goals(now.get(1), letter));
                if (words.putIfAbsent(next, words.get(now) + (char) ('a' + letter)) == null) {
                    todo.add(next);
                }
            }
        }
        kept = null;
        return true;
    }

    int length() {
        return kept == null ? -1 : kept.length();
    }

    int letter(int t) {
        index(kept != null && t >= 0 && t < kept.length());
        return kept.charAt(t) - 'a';
    }

    private static Map<Set<Integer>, List<Set<Integer>>> allSets(Machine m) {
        Map<Set<Integer>, List<Set<Integer>>> found = new LinkedHashMap<>();
        ArrayDeque<Set<Integer>> todo = new ArrayDeque<>();
        todo.add(m.starts);
        while (!todo.isEmpty()) {
            Set<Integer> set = todo.remove();
            if (!found.containsKey(set)) {
                List<Set<Integer>> next = new ArrayList<>();
                for (int letter = 0; letter < 8; letter++) {
                    next.add(m.goals(set, letter));
                }
                found.put(set, next);
                todo.addAll(next);
            }
        }
        return found;
    }

    long words(int k, int length) {
        Machine m = at(k);
        argument(m.count <= 11);
        argument(length >= 0 && length <= 20);
        Map<Set<Integer>, List<Set<Integer>>> found = allSets(m);
        Map<Set<Integer>, BigInteger> from = new HashMap<>();
        found.keySet().forEach(set -> from.put(set, m.hasEnd(set) ? BigInteger.ONE : BigInteger.ZERO));
        Map<Set<Integer>, BigInteger> now = from;
        for (int t = 0; t < length; t++) {
            Map<Set<Integer>, BigInteger> more = new HashMap<>();
            for (Set<Integer> set : found.keySet()) {
                BigInteger sum = BigInteger.ZERO;
                for (Set<Integer> next : found.get(set)) {
                    sum = sum.add(now.get(next));
                }
                more.put(set, sum);
            }
            now = more;
        }
        return now.get(m.starts).longValueExact();
    }

    int sets(int k) {
        Machine m = at(k);
        argument(m.count <= 11);
        return allSets(m).size();
    }

    /** Classes of sets are split until no letter tells two of a class apart. */
    int rests(int k) {
        Machine m = at(k);
        argument(m.count <= 11);
        Map<Set<Integer>, List<Set<Integer>>> found = allSets(m);
        Map<Set<Integer>, Integer> kinds = new HashMap<>();
        found.keySet().forEach(set -> kinds.put(set, m.hasEnd(set) ? 1 : 0));
        int before = 0;
        int now = new HashSet<>(kinds.values()).size();
        while (now != before) {
            Map<List<Integer>, Integer> numbers = new HashMap<>();
            Map<Set<Integer>, Integer> finer = new HashMap<>();
            for (Set<Integer> set : found.keySet()) {
                List<Integer> sign = new ArrayList<>();
                sign.add(kinds.get(set));
                found.get(set).forEach(next -> sign.add(kinds.get(next)));
                numbers.putIfAbsent(sign, numbers.size());
                finer.put(set, numbers.get(sign));
            }
            kinds.putAll(finer);
            before = now;
            now = numbers.size();
        }
        return now;
    }
}
