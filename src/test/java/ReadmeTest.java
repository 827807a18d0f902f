import java.io.IOException;
import java.lang.reflect.InvocationTargetException;
import java.lang.reflect.Method;
import java.lang.reflect.Modifier;
import java.nio.file.DirectoryStream;
import java.nio.file.Files;
import java.nio.file.Path;
import java.util.ArrayList;
import java.util.List;
import java.util.TreeSet;
import java.util.regex.Matcher;
import java.util.regex.Pattern;

/**
 * README.md: each call that it shows answers what stands behind it there, and all calls and all tests
 * are told. A line of an example that is none of the forms below is wrong too.
 */
public final class ReadmeTest {
    private static final Pattern NEW = Pattern.compile("WordMachines x = new WordMachines\\(\\);");
    private static final Pattern FEED = Pattern.compile(
            "for \\(char c : \"([^\"]*)\"\\.toCharArray\\(\\)\\) x\\.feed\\(1, c\\);");
    private static final Pattern CALL = Pattern.compile("x\\.(\\w+)\\((.*?)\\); *(?:// (.*))?");
    private static final Pattern TOLD_CALL = Pattern.compile("\\| `(\\w+)\\(([^)]*)\\)` \\|.*");
    private static final Pattern TOLD_TEST = Pattern.compile("\\| (\\w+Test) \\|.*");

    private static final TreeSet<String> SHOWN = new TreeSet<>();
    private static WordMachines x = null;

    public static void main(String[] args) throws IOException, IllegalAccessException {
        List<String> lines = Files.readAllLines(Path.of("README.md"));
        for (String line : examples(lines)) {
            runLine(line);
        }
        TreeSet<String> calls = new TreeSet<>();
        TreeSet<String> callsWithSizes = new TreeSet<>();
        for (Method method : publicMethods()) {
            calls.add(method.getName());
            callsWithSizes.add(method.getName() + " " + method.getParameterCount());
        }
        Check.due("calls shown", SHOWN.toString(), calls.toString());
        Check.due("calls told", toldCalls(lines).toString(), callsWithSizes.toString());
        Check.due("tests told", toldTests(lines).toString(), tests().toString());
        Check.end();
    }

    private static List<String> examples(List<String> lines) {
        List<String> inside = new ArrayList<>();
        boolean isInside = false;
        for (String line : lines) {
            if (line.startsWith("```")) {
                isInside = line.equals("```java");
            } else if (isInside) {
                inside.add(line);
            }
        }
        return inside;
    }

    private static void runLine(String line) throws IllegalAccessException {
        Matcher call = CALL.matcher(line);
        Matcher feed = FEED.matcher(line);
        if (NEW.matcher(line).matches()) {
            x = new WordMachines();
        } else if (feed.matches()) {
            Ask.feed(x, feed.group(1));
        } else if (call.matches()) {
            runCall(line, call.group(1), call.group(2), call.group(3));
        } else {
            Check.due("lines that are not understood", line.isEmpty() || line.startsWith("// ") ? "" : line, "");
        }
    }

    private static void runCall(String line, String name, String values, String remark) throws IllegalAccessException {
        SHOWN.add(name);
        for (Method method : publicMethods()) {
            if (method.getName().equals(name)) {
                String answer = answerOf(method, values.isEmpty() ? new String[0] : values.split(", "));
                String shown = remark == null ? "nothing" : remark.split(":")[0];
                boolean tellsNothing = answer.equals("null") && !shown.startsWith("throws");
                Check.due(line, tellsNothing ? shown : answer, shown.equals("NONE") ? "-1" : shown);
                return;
            }
        }
        Check.due(line, "no such call", "a call of the face");
    }

    private static String answerOf(Method method, String[] values) throws IllegalAccessException {
        Class<?>[] types = method.getParameterTypes();
        Object[] given = new Object[values.length];
        for (int t = 0; t < values.length; t++) {
            given[t] = valueOf(values[t], types[t]);
        }
        try {
            return String.valueOf(method.invoke(x, given));
        } catch (InvocationTargetException e) {
            return "throws " + e.getCause().getClass().getSimpleName();
        }
    }

    private static Object valueOf(String written, Class<?> type) {
        if (type == boolean.class) {
            return written.equals("true");
        }
        long number = written.startsWith("'") ? written.charAt(1) : Long.decode(written.replace("L", ""));
        if (type == int.class) {
            return (int) number;
        }
        return number;
    }

    private static List<Method> publicMethods() {
        List<Method> methods = new ArrayList<>();
        for (Method method : WordMachines.class.getDeclaredMethods()) {
            if (Modifier.isPublic(method.getModifiers())) {
                methods.add(method);
            }
        }
        return methods;
    }

    private static TreeSet<String> toldCalls(List<String> lines) {
        TreeSet<String> told = new TreeSet<>();
        for (String line : lines) {
            Matcher call = TOLD_CALL.matcher(line);
            if (call.matches()) {
                int size = call.group(2).isEmpty() ? 0 : call.group(2).split(", ").length;
                told.add(call.group(1) + " " + size);
            }
        }
        return told;
    }

    private static TreeSet<String> toldTests(List<String> lines) {
        TreeSet<String> told = new TreeSet<>();
        for (String line : lines) {
            Matcher test = TOLD_TEST.matcher(line);
            if (test.matches()) {
                told.add(test.group(1));
            }
        }
        return told;
    }

    private static TreeSet<String> tests() throws IOException {
        TreeSet<String> names = new TreeSet<>();
        try (DirectoryStream<Path> files = Files.newDirectoryStream(Path.of("src/test/java"), "*.java")) {
            files.forEach(file -> names.add(file.getFileName().toString().replace(".java", "")));
        }
        return names;
    }
}
