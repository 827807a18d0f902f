import java.util.Arrays;

/**
 * Machines that take words or not, read from expressions or told by their arcs: whether all words
 * that one takes are taken by another one, and if not, the least word that is not; how many words
 * there are of a length, how many sets of states can be come to, and how many states the least
 * machine that goes one way alone would have.
 *
 * <p>Sets of states (and of letters) are the bits of an int.
 */
public final class WordMachines {
    public static final int NONE = -1;

    private static final int MACHINES = 8;
    private static final int LETTERS = 8;
    private static final int MOST_BYTES = 200;
    private static final int MOST_FED = 8;
    private static final int MOST_STATES = 24;
    private static final int MOST_SET_STATES = 11;
    private static final int SETS = 1 << MOST_SET_STATES;
    private static final int MOST_LENGTH = 20;
    private static final int START = 1;
    private static final int END = 2;

    private final Machine[] machines = new Machine[MACHINES];
    // What a machine becomes is built here first, for it may be one of those that it is made of.
    private final Machine spare = new Machine();
    private final byte[] text = new byte[MOST_BYTES];
    private int textSize = 0;
    private final ExpressionReader reader = new ExpressionReader();
    private final SetWalk walk = new SetWalk();
    private final WordHunt hunt = new WordHunt();

    public WordMachines() {
        for (int k = 0; k < MACHINES; k++) {
            machines[k] = new Machine();
        }
    }

    public int feed(int n, long bytes) throws IllegalArgumentException {
        if (n < 1 || n > MOST_FED) {
            throw new IllegalArgumentException("n is not 1 to 8");
        }
        if (textSize + n > MOST_BYTES) {
            return NONE;
        }
        for (int t = 0; t < n; t++) {
            text[textSize + t] = (byte) (bytes >>> (8 * t));
        }
        textSize += n;
        return textSize;
    }

    public int wipe() {
        int had = textSize;
        textSize = 0;
        return had;
    }

    public int read(int k) throws IndexOutOfBoundsException {
        Machine machine = machineAt(k);
        reader.parse(text, textSize);
        if (reader.faultKind != ExpressionReader.NO_FAULT) {
            return NONE;
        }
        reader.writeTo(machine);
        return machine.count;
    }

    public int fault() {
        return reader.faultKind;
    }

    public int place() {
        return reader.faultPlace;
    }

    public void blank(int k, int n) throws IndexOutOfBoundsException, IllegalArgumentException {
        Machine machine = machineAt(k);
        if (n < 1 || n > MOST_STATES) {
            throw new IllegalArgumentException("n is not 1 to 24");
        }
        machine.clear(n);
    }

    public void mark(int k, int state, int what) throws IndexOutOfBoundsException, IllegalArgumentException {
        Machine machine = machineAt(k);
        checkState(machine, state);
        if (what < 0 || what > (START | END)) {
            throw new IllegalArgumentException("what is not 0 to 3");
        }
        machine.startSet = withBit(machine.startSet, state, (what & START) != 0);
        machine.endSet = withBit(machine.endSet, state, (what & END) != 0);
    }

    public boolean arc(int k, int from, int letter, int to, boolean is)
            throws IndexOutOfBoundsException, IllegalArgumentException {
        Machine machine = machineAt(k);
        checkState(machine, from);
        checkState(machine, to);
        if (letter < 0 || letter >= LETTERS) {
            throw new IllegalArgumentException("there is no such letter");
        }
        int goals = machine.goalsOf(from, letter);
        machine.putGoals(from, letter, withBit(goals, to, is));
        return hasBit(goals, to);
    }

    public int arcs(int k, int from, int letter) throws IndexOutOfBoundsException, IllegalArgumentException {
        Machine machine = machineAt(k);
        checkState(machine, from);
        if (letter < 0 || letter > LETTERS) {
            throw new IllegalArgumentException("there is no such letter");
        }
        if (letter == LETTERS) {
            return (hasBit(machine.startSet, from) ? START : 0) | (hasBit(machine.endSet, from) ? END : 0);
        }
        return machine.goalsOf(from, letter);
    }

    public int states(int k) throws IndexOutOfBoundsException {
        return machineAt(k).count;
    }

    public void turn(int k, int i) throws IndexOutOfBoundsException {
        Machine machine = machineAt(k);
        Machine one = machineAt(i);
        spare.becomeTurned(one);
        machine.becomeCopy(spare);
    }

    public int either(int k, int i, int j) throws IndexOutOfBoundsException {
        Machine machine = machineAt(k);
        Machine one = machineAt(i);
        Machine other = machineAt(j);
        if (one.count + other.count > MOST_STATES) {
            return NONE;
        }
        spare.becomeBeside(one, other);
        machine.becomeCopy(spare);
        return machine.count;
    }

    public int both(int k, int i, int j) throws IndexOutOfBoundsException {
        Machine machine = machineAt(k);
        Machine one = machineAt(i);
        Machine other = machineAt(j);
        if (one.count * other.count > MOST_STATES) {
            return NONE;
        }
        spare.becomePairs(one, other);
        machine.becomeCopy(spare);
        return machine.count;
    }

    public boolean takes(int k) throws IndexOutOfBoundsException {
        Machine machine = machineAt(k);
        int set = machine.startSet;
        for (int at = 0; at < textSize; at++) {
            int letter = letterOf(text[at]);
            if (letter == NONE) {
                return false;
            }
            set = machine.goalsOfSet(set, letter);
        }
        return (set & machine.endSet) != 0;
    }

    public boolean within(int i, int j) throws IndexOutOfBoundsException, IllegalArgumentException {
        Machine one = machineAt(i);
        Machine other = machineAt(j);
        checkFewStates(other);
        walk.fillSteps(other);
        hunt.search(one, other, walk);
        return hunt.wordLength == NONE;
    }

    public int length() {
        return hunt.wordLength;
    }

    public int letter(int t) throws IndexOutOfBoundsException {
        if (t < 0 || t >= hunt.wordLength) {
            throw new IndexOutOfBoundsException("the word has no such letter");
        }
        return hunt.wordLetter(t);
    }

    public long words(int k, int length) throws IndexOutOfBoundsException, IllegalArgumentException {
        Machine machine = machineAt(k);
        checkFewStates(machine);
        if (length < 0 || length > MOST_LENGTH) {
            throw new IllegalArgumentException("length is not 0 to 20");
        }
        return walk.countWords(machine, length);
    }

    public int sets(int k) throws IndexOutOfBoundsException, IllegalArgumentException {
        Machine machine = machineAt(k);
        checkFewStates(machine);
        walk.meetAll(machine);
        return walk.metCount;
    }

    public int rests(int k) throws IndexOutOfBoundsException, IllegalArgumentException {
        Machine machine = machineAt(k);
        checkFewStates(machine);
        spare.becomeTurned(machine);
        return walk.countRests(machine, spare);
    }

    private Machine machineAt(int k) {
        if (k < 0 || k >= MACHINES) {
            throw new IndexOutOfBoundsException("there is no such machine");
        }
        return machines[k];
    }

    private static void checkState(Machine machine, int state) {
        if (state < 0 || state >= machine.count) {
            throw new IndexOutOfBoundsException("there is no such state");
        }
    }

    private static void checkFewStates(Machine machine) {
        if (machine.count > MOST_SET_STATES) {
            throw new IllegalArgumentException("the machine has more than 11 states");
        }
    }

    private static int letterOf(int b) {
        return b >= 'a' && b < 'a' + LETTERS ? b - 'a' : NONE;
    }

    private static boolean hasBit(int set, int bit) {
        return (set >>> bit & 1) != 0;
    }

    private static int withBit(int set, int bit, boolean is) {
        return is ? set | 1 << bit : set & ~(1 << bit);
    }

    /** States with their starts, ends and arcs. */
    private static final class Machine {
        private final int[] goals = new int[LETTERS * MOST_STATES];
        int count = 1;
        int startSet = 0;
        int endSet = 0;

        int goalsOf(int state, int letter) {
            return goals[letter * MOST_STATES + state];
        }

        void putGoals(int state, int letter, int set) {
            goals[letter * MOST_STATES + state] = set;
        }

        int goalsOfSet(int set, int letter) {
            int all = 0;
            for (int state = Integer.numberOfTrailingZeros(set); state < count && set >>> state != 0; state++) {
                if (hasBit(set, state)) {
                    all |= goalsOf(state, letter);
                }
            }
            return all;
        }

        void clear(int n) {
            count = n;
            startSet = 0;
            endSet = 0;
            Arrays.fill(goals, 0);
        }

        void becomeCopy(Machine one) {
            count = one.count;
            startSet = one.startSet;
            endSet = one.endSet;
            System.arraycopy(one.goals, 0, goals, 0, goals.length);
        }

        void becomeTurned(Machine one) {
            clear(one.count);
            startSet = one.endSet;
            endSet = one.startSet;
            for (int letter = 0; letter < LETTERS; letter++) {
                for (int from = 0; from < count; from++) {
                    turnArcs(from, letter, one.goalsOf(from, letter));
                }
            }
        }

        private void turnArcs(int from, int letter, int set) {
            for (int to = 0; to < count; to++) {
                if (hasBit(set, to)) {
                    putGoals(to, letter, withBit(goalsOf(to, letter), from, true));
                }
            }
        }

        void becomeBeside(Machine one, Machine other) {
            becomeCopy(one);
            count = one.count + other.count;
            startSet |= other.startSet << one.count;
            endSet |= other.endSet << one.count;
            for (int letter = 0; letter < LETTERS; letter++) {
                for (int from = 0; from < other.count; from++) {
                    putGoals(one.count + from, letter, other.goalsOf(from, letter) << one.count);
                }
            }
        }

        void becomePairs(Machine one, Machine other) {
            clear(one.count * other.count);
            startSet = pairs(one, one.startSet, other, other.startSet);
            endSet = pairs(one, one.endSet, other, other.endSet);
            for (int x = 0; x < one.count; x++) {
                for (int y = 0; y < other.count; y++) {
                    pairArcs(one, x, other, y);
                }
            }
        }

        private void pairArcs(Machine one, int x, Machine other, int y) {
            for (int letter = 0; letter < LETTERS; letter++) {
                int set = pairs(one, one.goalsOf(x, letter), other, other.goalsOf(y, letter));
                putGoals(x * other.count + y, letter, set);
            }
        }

        private static int pairs(Machine one, int oneSet, Machine other, int otherSet) {
            int set = 0;
            for (int x = 0; x < one.count; x++) {
                if (hasBit(oneSet, x)) {
                    set |= otherSet << x * other.count;
                }
            }
            return set;
        }
    }

    /**
     * What is known of a piece of an expression: whether the empty word belongs to it, and which
     * states can come first and last.
     */
    private static final class Piece {
        boolean belongs;
        int firstSet;
        int lastSet;

        void put(boolean belonging, int firsts, int lasts) {
            belongs = belonging;
            firstSet = firsts;
            lastSet = lasts;
        }

        void addPart(Piece part) {
            put(belongs || part.belongs, firstSet | part.firstSet, lastSet | part.lastSet);
        }

        void append(Piece latter) {
            firstSet |= belongs ? latter.firstSet : 0;
            lastSet = latter.lastSet | (latter.belongs ? lastSet : 0);
            belongs = belongs && latter.belongs;
        }
    }

    /** An expression that is not at its end yet: the whole text, or one behind an open parenthesis. */
    private static final class Level {
        final Piece parts = new Piece();
        final Piece row = new Piece();
        // The last thing stays out of the row as long as a * + or ? may still follow it.
        final Piece thing = new Piece();
        boolean hasThing;

        void beginExpression() {
            parts.put(false, 0, 0);
            beginPart();
        }

        void beginPart() {
            row.put(true, 0, 0);
            // No thing is held as the empty word alone: to append that changes nothing.
            thing.put(true, 0, 0);
            hasThing = false;
        }
    }

    /** Reads an expression byte by byte, up to its first fault. */
    private static final class ExpressionReader {
        static final int NO_FAULT = 0;
        private static final int BAD_BYTE = 1;
        private static final int TOO_MANY_STATES = 2;
        private static final int TOO_MANY_OPEN = 3;
        private static final int BAD_RANGE = 4;

        private static final int MOST_OPEN = 20;
        private static final int ALL_LETTERS = (1 << LETTERS) - 1;

        // Where the byte to come stands: outside of [ ], or inside behind this.
        private static final int OUTSIDE = 0;
        private static final int BEHIND_BRACKET = 1;
        private static final int BEHIND_NOT = 2;
        private static final int BEHIND_LETTER = 3;
        private static final int BEHIND_DASH = 4;
        private static final int BEHIND_RANGE = 5;

        int faultKind = NO_FAULT;
        int faultPlace = NONE;
        private final Level[] levels = new Level[MOST_OPEN + 1];
        private final int[] followers = new int[MOST_STATES];
        private final int[] letterSets = new int[MOST_STATES];
        private int open;
        private int count;
        private int mode;
        private boolean isNot;
        private int rangeStart;

        ExpressionReader() {
            for (int i = 0; i < levels.length; i++) {
                levels[i] = new Level();
            }
        }

        void parse(byte[] text, int size) {
            begin();
            int kind = NO_FAULT;
            int at;
            for (at = 0; at < size; at++) {
                kind = mode == OUTSIDE ? takeOutside(text[at]) : takeInside(text[at]);
                if (kind != NO_FAULT) {
                    break;
                }
            }
            if (kind == NO_FAULT && (mode != OUTSIDE || open > 0)) {
                kind = BAD_BYTE;
            }
            faultKind = kind;
            faultPlace = kind == NO_FAULT ? NONE : at;
        }

        void writeTo(Machine machine) {
            Level top = levels[0];
            endPart(top);
            followers[0] = top.parts.firstSet;
            machine.clear(count);
            machine.startSet = 1;
            machine.endSet = top.parts.lastSet | (top.parts.belongs ? 1 : 0);
            for (int letter = 0; letter < LETTERS; letter++) {
                int set = statesWith(letter);
                for (int state = 0; state < count; state++) {
                    machine.putGoals(state, letter, followers[state] & set);
                }
            }
        }

        private int statesWith(int letter) {
            int set = 0;
            for (int state = 1; state < count; state++) {
                if (hasBit(letterSets[state], letter)) {
                    set |= 1 << state;
                }
            }
            return set;
        }

        private void begin() {
            open = 0;
            count = 1;
            mode = OUTSIDE;
            levels[0].beginExpression();
        }

        private int takeOutside(int b) {
            int letter = letterOf(b);
            if (letter != NONE) {
                return addState(1 << letter);
            }
            switch (b) {
                case '.':
                    return addState(ALL_LETTERS);
                case '[':
                    mode = BEHIND_BRACKET;
                    isNot = false;
                    return addState(0);
                case '(':
                    return openExpression();
                case ')':
                    return closeExpression();
                case '|':
                    endPart(levels[open]);
                    return NO_FAULT;
                case '*':
                case '+':
                case '?':
                    return repeat(levels[open], b);
                default:
                    return BAD_BYTE;
            }
        }

        private int addState(int letters) {
            if (count >= MOST_STATES) {
                return TOO_MANY_STATES;
            }
            letterSets[count] = letters;
            followers[count] = 0;
            addThing(levels[open], false, 1 << count, 1 << count);
            count++;
            return NO_FAULT;
        }

        private int openExpression() {
            if (open >= MOST_OPEN) {
                return TOO_MANY_OPEN;
            }
            open++;
            levels[open].beginExpression();
            return NO_FAULT;
        }

        private int closeExpression() {
            if (open <= 0) {
                return BAD_BYTE;
            }
            Level inner = levels[open];
            endPart(inner);
            open--;
            addThing(levels[open], inner.parts.belongs, inner.parts.firstSet, inner.parts.lastSet);
            return NO_FAULT;
        }

        private int repeat(Level level, int sign) {
            if (!level.hasThing) {
                return BAD_BYTE;
            }
            Piece thing = level.thing;
            if (sign != '?') {
                link(thing.lastSet, thing.firstSet);
            }
            if (sign != '+') {
                thing.belongs = true;
            }
            return NO_FAULT;
        }

        private void addThing(Level level, boolean belongs, int firsts, int lasts) {
            joinThing(level);
            level.thing.put(belongs, firsts, lasts);
            level.hasThing = true;
        }

        private void joinThing(Level level) {
            link(level.row.lastSet, level.thing.firstSet);
            level.row.append(level.thing);
        }

        private void endPart(Level level) {
            joinThing(level);
            level.parts.addPart(level.row);
            level.beginPart();
        }

        private void link(int lasts, int firsts) {
            for (int state = 1; state < count; state++) {
                if ((lasts >>> state & 1) != 0) {
                    followers[state] |= firsts;
                }
            }
        }

        private int takeInside(int b) {
            int letter = letterOf(b);
            if (letter != NONE) {
                return mode == BEHIND_DASH ? addRange(letter) : addLetter(letter);
            }
            if (b == '^' && mode == BEHIND_BRACKET) {
                isNot = true;
                mode = BEHIND_NOT;
                return NO_FAULT;
            }
            if (b == '-' && mode == BEHIND_LETTER) {
                mode = BEHIND_DASH;
                return NO_FAULT;
            }
            if (b == ']' && (mode == BEHIND_LETTER || mode == BEHIND_RANGE)) {
                closeBracket();
                return NO_FAULT;
            }
            return BAD_BYTE;
        }

        // The state of the [ ] that is open is the newest one.
        private int addLetter(int letter) {
            letterSets[count - 1] |= 1 << letter;
            rangeStart = letter;
            mode = BEHIND_LETTER;
            return NO_FAULT;
        }

        private int addRange(int letter) {
            if (letter < rangeStart) {
                return BAD_RANGE;
            }
            for (int between = rangeStart; between <= letter; between++) {
                letterSets[count - 1] |= 1 << between;
            }
            mode = BEHIND_RANGE;
            return NO_FAULT;
        }

        private void closeBracket() {
            if (isNot) {
                letterSets[count - 1] ^= ALL_LETTERS;
            }
            mode = OUTSIDE;
        }
    }

    /** Goes from set to set of a machine's states; for machines of at most MOST_SET_STATES states. */
    private static final class SetWalk {
        private final int[] steps = new int[LETTERS * SETS];
        private final boolean[] marks = new boolean[SETS];
        private final int[] met = new int[SETS];
        private final int[] unions = new int[SETS];
        private final long[] evenCounts = new long[SETS];
        private final long[] oddCounts = new long[SETS];
        int setCount = 0;
        int metCount = 0;

        void fillSteps(Machine machine) {
            setCount = 1 << machine.count;
            for (int letter = 0; letter < LETTERS; letter++) {
                int base = letter * SETS;
                steps[base] = 0;
                for (int set = 1; set < setCount; set++) {
                    int lowest = Integer.numberOfTrailingZeros(set);
                    steps[base + set] = steps[base + (set & (set - 1))] | machine.goalsOf(lowest, letter);
                }
            }
        }

        int stepFrom(int set, int letter) {
            return steps[letter * SETS + set];
        }

        void meetAll(Machine machine) {
            fillSteps(machine);
            clearMarks();
            metCount = 0;
            meet(machine.startSet);
            for (int at = 0; at < metCount && at < SETS; at++) {
                for (int letter = 0; letter < LETTERS; letter++) {
                    meet(stepFrom(met[at], letter));
                }
            }
        }

        private void meet(int set) {
            if (markNew(set) && metCount < SETS) {
                met[metCount] = set;
                metCount++;
            }
        }

        private void clearMarks() {
            for (int set = 0; set < setCount; set++) {
                marks[set] = false;
            }
        }

        private boolean markNew(int set) {
            boolean isNew = !marks[set];
            marks[set] = true;
            return isNew;
        }

        long countWords(Machine machine, int length) {
            meetAll(machine);
            long[] now = evenCounts;
            long[] next = oddCounts;
            Arrays.fill(now, 0, setCount, 0L);
            now[machine.startSet] = 1;
            for (int t = 0; t < length; t++) {
                addLetterToWords(now, next);
                long[] old = now;
                now = next;
                next = old;
            }
            return sumOfEnds(now, machine.endSet);
        }

        private void addLetterToWords(long[] now, long[] next) {
            Arrays.fill(next, 0, setCount, 0L);
            for (int at = 0; at < metCount; at++) {
                int set = met[at];
                if (now[set] != 0) {
                    for (int letter = 0; letter < LETTERS; letter++) {
                        next[stepFrom(set, letter)] += now[set];
                    }
                }
            }
        }

        private long sumOfEnds(long[] counts, int endSet) {
            long sum = 0;
            for (int at = 0; at < metCount; at++) {
                if ((met[at] & endSet) != 0) {
                    sum += counts[met[at]];
                }
            }
            return sum;
        }

        /**
         * A word is in a set's rest just when the set shares a state with the SOURCES of the word:
         * all states from which it leads to an end, a set that the turned machine comes to. So two
         * sets have the same rest just when the same sources lie outside of them, and that is just
         * when the unions of all those are the same (a source that lies in the union lies outside).
         */
        int countRests(Machine machine, Machine turned) {
            meetAll(turned);
            fillUnions();
            meetAll(machine);
            clearMarks();
            int all = setCount - 1;
            int count = 0;
            for (int at = 0; at < metCount; at++) {
                if (markNew(unions[all & ~met[at]])) {
                    count++;
                }
            }
            return count;
        }

        // For each set the union of all met sets that lie in it.
        private void fillUnions() {
            for (int set = 0; set < setCount; set++) {
                unions[set] = marks[set] ? set : unionOfSmaller(set);
            }
        }

        private int unionOfSmaller(int set) {
            int union = 0;
            for (int state = 0; state < MOST_SET_STATES; state++) {
                if (hasBit(set, state)) {
                    union |= unions[set & ~(1 << state)];
                }
            }
            return union;
        }
    }

    /**
     * Looks for the least word that one machine takes and another one does not, going through the
     * words from the least one on. A GROUP stands for a word: it holds those states to which the
     * word leads in the one machine and which no lesser word led to together with the same set of
     * the other one; what follows from the states left out followed from a lesser word already.
     */
    private static final class WordHunt {
        // Each group has a state that is new for its set.
        private static final int MOST_GROUPS = MOST_STATES * SETS;
        // A group is one long: its states, the other machine's set, its last letter, the group before that.
        private static final int SET_AT = MOST_STATES;
        private static final int LETTER_AT = SET_AT + MOST_SET_STATES;
        private static final int BEFORE_AT = LETTER_AT + 3;

        private final long[] groups = new long[MOST_GROUPS];
        private final int[] metWith = new int[SETS];
        private int groupCount = 0;
        private int wordGroup = 0;
        int wordLength = NONE;

        void search(Machine one, Machine other, SetWalk walk) {
            Arrays.fill(metWith, 0, walk.setCount, 0);
            groupCount = 0;
            wordLength = NONE;
            addGroup(one.startSet, other.startSet, 0, 0);
            for (int at = 0; at < groupCount && at < MOST_GROUPS; at++) {
                int states = statesOf(at);
                int set = setOf(at);
                if ((states & one.endSet) != 0 && (set & other.endSet) == 0) {
                    keepWord(at);
                    return;
                }
                for (int letter = 0; letter < LETTERS; letter++) {
                    addGroup(one.goalsOfSet(states, letter), walk.stepFrom(set, letter), letter, at);
                }
            }
        }

        private void addGroup(int states, int set, int letter, int before) {
            int newStates = states & ~metWith[set];
            if (newStates != 0 && groupCount < MOST_GROUPS) {
                metWith[set] |= newStates;
                groups[groupCount] = newStates | (long) set << SET_AT
                        | (long) letter << LETTER_AT | (long) before << BEFORE_AT;
                groupCount++;
            }
        }

        private void keepWord(int at) {
            wordGroup = at;
            wordLength = 0;
            // The empty word's group has the number 0, and the group before always a lower one.
            for (int group = at; group > 0 && wordLength < MOST_GROUPS; group = groupBefore(group)) {
                wordLength++;
            }
        }

        int wordLetter(int t) {
            int group = wordGroup;
            for (int later = wordLength - 1; later > t; later--) {
                group = groupBefore(group);
            }
            return (int) (groups[group] >>> LETTER_AT) & LETTERS - 1;
        }

        private int statesOf(int group) {
            return (int) groups[group] & (1 << MOST_STATES) - 1;
        }

        private int setOf(int group) {
            return (int) (groups[group] >>> SET_AT) & SETS - 1;
        }

        private int groupBefore(int group) {
            return (int) (groups[group] >>> BEFORE_AT);
        }
    }
}
