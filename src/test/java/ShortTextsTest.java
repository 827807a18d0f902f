import java.util.ArrayDeque;
import java.util.ArrayList;
import java.util.Deque;
import java.util.List;
import java.util.Set;
import java.util.TreeSet;
import java.util.regex.Matcher;
import java.util.regex.Pattern;

/**
 * Promises 4 to 6 on every text of up to five signs. What is due comes from no grammar: a text is an
 * expression if nothing but things and | is left when all that is inmost has been replaced by a
 * letter; a byte can come if what stands up to it can be made an expression by more behind it; and
 * arcs go where two letters, each with a number of its own, stand side by side in some word.
 */
public final class ShortTextsTest {
    private static final String SIGNS = "ab.[]()|*+?^-";
    private static final int MOST_SIGNS = 5;
    private static final String[] BRACKET_ENDS = {"", "]", "a]", "h]"};
    private static final Pattern BRACKET = Pattern.compile("\\[(\\^?)((?:[a-h]-[a-h]|[a-h])+)\\]");
    private static final Pattern RANGE = Pattern.compile("([a-h])-([a-h])");
    private static final Pattern ONE_LETTER = Pattern.compile("[a-h.]");
    private static final Pattern INMOST = Pattern.compile("\\((?:a[*+?]*|\\|)*\\)");
    private static final Pattern FLAT = Pattern.compile("(?:a[*+?]*|\\|)*");
    private static final Pattern TOKEN = Pattern.compile(BRACKET.pattern() + "|.");
    private static final String NO_FAULT = "0 at -1";
    // To read a text takes five calls; to ask for a machine of six states takes 61.
    private static final int CALLS_OF_READ = 5;
    private static final int CALLS_OF_MACHINE = 61;

    private static WordMachines x = new WordMachines();
    private static int calls = 0;
    private static int expressions = 0;

    public static void main(String[] args) {
        compare("", dueFault("", NO_FAULT));
        compareLonger("", dueFault("", NO_FAULT));
        System.out.println(expressions + " of them expressions");
        Check.end();
    }

    private static void compareLonger(String text, String fault) {
        if (text.length() == MOST_SIGNS) {
            return;
        }
        for (int sign = 0; sign < SIGNS.length(); sign++) {
            String longer = text + SIGNS.charAt(sign);
            String due = dueFault(longer, fault);
            compare(longer, due);
            compareLonger(longer, due);
        }
    }

    private static void compare(String text, String fault) {
        makeRoomFor(CALLS_OF_READ + CALLS_OF_MACHINE);
        boolean isGood = fault.equals(NO_FAULT);
        int states = Ask.read(x, 0, text);
        calls += CALLS_OF_READ;
        Check.due("fault of " + text, x.fault() + " at " + x.place(), fault);
        Check.due("read " + text + " answers NONE", states == -1, !isGood);
        if (isGood && states != -1) {
            expressions++;
            calls += CALLS_OF_MACHINE;
            Check.due("machine of " + text, Ask.machine(x, 0), dueMachine(text));
        }
    }

    private static void makeRoomFor(int more) {
        if (calls + more > 512) {
            x = new WordMachines();
            calls = 0;
        }
    }

    /** What is due for a text, told what is due for all of it but the last byte. */
    private static String dueFault(String text, String before) {
        int last = text.length() - 1;
        boolean wasAtAByte = !before.equals(NO_FAULT) && !before.equals("1 at " + last);
        if (wasAtAByte) {
            return before;
        }
        if (!canBegin(text, false)) {
            return "1 at " + last;
        }
        if (!canBegin(text, true)) {
            return "4 at " + last;
        }
        return isExpression(text, true) ? NO_FAULT : "1 at " + text.length();
    }

    private static boolean canBegin(String text, boolean ordered) {
        int open = text.replace(")", "").length() - text.replace("(", "").length();
        for (String end : BRACKET_ENDS) {
            if (isExpression(text + end + ")".repeat(Math.max(0, open)), ordered)) {
                return true;
            }
        }
        return false;
    }

    private static boolean isExpression(String text, boolean ordered) {
        if (ordered && hasBadRange(text)) {
            return false;
        }
        String left = ONE_LETTER.matcher(BRACKET.matcher(text).replaceAll("a")).replaceAll("a");
        String before = "";
        while (!left.equals(before)) {
            before = left;
            left = INMOST.matcher(left).replaceAll("a");
        }
        return FLAT.matcher(left).matches();
    }

    private static boolean hasBadRange(String text) {
        Matcher brackets = BRACKET.matcher(text);
        while (brackets.find()) {
            Matcher ranges = RANGE.matcher(brackets.group(2));
            while (ranges.find()) {
                if (ranges.group(2).charAt(0) < ranges.group(1).charAt(0)) {
                    return true;
                }
            }
        }
        return false;
    }

    private static String dueMachine(String text) {
        List<String> letters = new ArrayList<>();
        letters.add("");
        Set<String> words = wordsOfNumbers(text, letters);
        StringBuilder all = new StringBuilder();
        for (int state = 0; state < letters.size(); state++) {
            int what = (state == 0 ? 1 : 0) + (isLastOfOne(words, state) ? 2 : 0);
            all.append(state).append(':').append(what);
            TreeSet<Integer> next = nextTo(words, state);
            for (char letter = 'a'; letter <= 'h'; letter++) {
                for (int to : next) {
                    all.append(letters.get(to).indexOf(letter) < 0 ? "" : " " + letter + to);
                }
            }
            all.append("; ");
        }
        return all.toString().trim();
    }

    // State 0 stands before each word.
    private static boolean isLastOfOne(Set<String> words, int state) {
        boolean isLast = false;
        for (String word : words) {
            String path = "\0" + word;
            isLast |= path.charAt(path.length() - 1) == state;
        }
        return isLast;
    }

    private static TreeSet<Integer> nextTo(Set<String> words, int state) {
        TreeSet<Integer> next = new TreeSet<>();
        for (String word : words) {
            String path = "\0" + word;
            for (int at = 0; at < word.length(); at++) {
                if (path.charAt(at) == state) {
                    next.add((int) path.charAt(at + 1));
                }
            }
        }
        return next;
    }

    /** An expression that is not at its end yet: the words of its parts so far, and the things behind the last |. */
    private static final class Open {
        final Set<String> words = new TreeSet<>();
        final Deque<Set<String>> row = new ArrayDeque<>();
    }

    /** The words of an expression when each of its letters is a char of its own, from 1 on; long ones are left out. */
    private static Set<String> wordsOfNumbers(String text, List<String> letters) {
        int most = 2 * text.length();
        Deque<Open> open = new ArrayDeque<>();
        open.push(new Open());
        Matcher token = TOKEN.matcher(text);
        while (token.find()) {
            Open now = open.peek();
            switch (token.group().charAt(0)) {
                case '(' -> open.push(new Open());
                case ')' -> {
                    open.pop();
                    endPart(now, most);
                    open.peek().row.addLast(now.words);
                }
                case '|' -> endPart(now, most);
                case '*' -> now.row.addLast(withEmpty(manyTimes(now.row.removeLast(), most)));
                case '+' -> now.row.addLast(manyTimes(now.row.removeLast(), most));
                case '?' -> now.row.addLast(withEmpty(now.row.removeLast()));
                default -> {
                    now.row.addLast(Set.of(String.valueOf((char) letters.size())));
                    letters.add(lettersOf(token));
                }
            }
        }
        endPart(open.peek(), most);
        return open.peek().words;
    }

    private static void endPart(Open now, int most) {
        Set<String> part = Set.of("");
        for (Set<String> thing : now.row) {
            part = joined(part, thing, most);
        }
        now.words.addAll(part);
        now.row.clear();
    }

    private static Set<String> joined(Set<String> former, Set<String> latter, int most) {
        Set<String> words = new TreeSet<>();
        for (String one : former) {
            for (String other : latter) {
                if (one.length() + other.length() <= most) {
                    words.add(one + other);
                }
            }
        }
        return words;
    }

    private static Set<String> manyTimes(Set<String> words, int most) {
        Set<String> all = new TreeSet<>(words);
        while (all.addAll(joined(all, words, most))) {
            continue;
        }
        return all;
    }

    private static Set<String> withEmpty(Set<String> words) {
        Set<String> all = new TreeSet<>(words);
        all.add("");
        return all;
    }

    private static String lettersOf(Matcher token) {
        String atom = token.group(2) == null ? token.group() : token.group(2);
        boolean isNot = token.group(2) != null && token.group(1).equals("^");
        StringBuilder letters = new StringBuilder();
        for (char letter = 'a'; letter <= 'h'; letter++) {
            boolean isIn = atom.equals(".") || atom.indexOf(letter) >= 0;
            Matcher ranges = RANGE.matcher(atom);
            while (ranges.find()) {
                isIn |= letter >= ranges.group(1).charAt(0) && letter <= ranges.group(2).charAt(0);
            }
            letters.append(isIn == isNot ? "" : letter);
        }
        return letters.toString();
    }
}
