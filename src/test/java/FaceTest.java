import java.lang.reflect.Constructor;
import java.lang.reflect.Field;
import java.lang.reflect.Method;
import java.lang.reflect.Modifier;
import java.util.HashSet;
import java.util.Set;
import java.util.TreeSet;

/** The face is the document's, and nothing else can be seen (rules 1, 5 and 11 of LANGUAGE.md). */
public final class FaceTest {
    private static final String INDEX = " java.lang.IndexOutOfBoundsException";
    private static final String ARGUMENT = " java.lang.IllegalArgumentException";

    public static void main(String[] args) {
        TreeSet<String> want = new TreeSet<>(Set.of(
                "int feed(int long)" + ARGUMENT,
                "int wipe()",
                "int read(int)" + INDEX,
                "int fault()",
                "int place()",
                "void blank(int int)" + INDEX + ARGUMENT,
                "void mark(int int int)" + INDEX + ARGUMENT,
                "boolean arc(int int int int boolean)" + INDEX + ARGUMENT,
                "int arcs(int int int)" + INDEX + ARGUMENT));
        want.addAll(Set.of(
                "int states(int)" + INDEX,
                "void turn(int int)" + INDEX,
                "int either(int int int)" + INDEX,
                "int both(int int int)" + INDEX,
                "boolean takes(int)" + INDEX,
                "boolean within(int int)" + INDEX + ARGUMENT,
                "int length()",
                "int letter(int)" + INDEX,
                "long words(int int)" + INDEX + ARGUMENT,
                "int sets(int)" + INDEX + ARGUMENT,
                "int rests(int)" + INDEX + ARGUMENT));
        Set<String> names = new HashSet<>();
        Check.due("methods", seenMethods(names).toString(), want.toString());
        Check.due("class", Modifier.toString(WordMachines.class.getModifiers()), "public final");
        Constructor<?>[] constructors = WordMachines.class.getDeclaredConstructors();
        Check.due("constructors", constructors.length, 1);
        Check.due("constructor", constructors[0].toString(), "public WordMachines()");
        fieldsOf(WordMachines.class);
        for (Class<?> inside : WordMachines.class.getDeclaredClasses()) {
            Check.due(inside + " is static", Modifier.isStatic(inside.getModifiers()), true);
            boolean isHidden = (inside.getModifiers() & (Modifier.PUBLIC | Modifier.PROTECTED)) == 0;
            Check.due(inside + " is hidden", isHidden, true);
            fieldsOf(inside);
            methodsOf(inside, names);
        }
        Check.end();
    }

    private static TreeSet<String> seenMethods(Set<String> names) {
        TreeSet<String> seen = new TreeSet<>();
        for (Method method : WordMachines.class.getDeclaredMethods()) {
            if (!Modifier.isPrivate(method.getModifiers())) {
                names.add(method.getName());
                seen.add(signature(method));
            }
        }
        methodsOf(WordMachines.class, names);
        return seen;
    }

    private static String signature(Method method) {
        StringBuilder text = new StringBuilder();
        text.append(Modifier.toString(method.getModifiers()).replace("public", "").trim());
        text.append(method.getReturnType()).append(' ').append(method.getName()).append('(');
        String gap = "";
        for (Class<?> type : method.getParameterTypes()) {
            text.append(gap).append(type);
            gap = " ";
        }
        text.append(')');
        for (Class<?> type : method.getExceptionTypes()) {
            text.append(' ').append(type.getName());
        }
        return text.toString();
    }

    private static void methodsOf(Class<?> of, Set<String> names) {
        for (Method method : of.getDeclaredMethods()) {
            Check.due(method + " has few parameters", method.getParameterCount() <= 7, true);
            boolean ofTheFace = of == WordMachines.class && Modifier.isPublic(method.getModifiers());
            Check.due(method + " has a name of its own", ofTheFace || !names.contains(method.getName()), true);
        }
    }

    private static void fieldsOf(Class<?> of) {
        int own = 0;
        for (Field field : of.getDeclaredFields()) {
            boolean isConstant = Modifier.isStatic(field.getModifiers());
            own += isConstant ? 0 : 1;
            Check.due(field + " is final if static", !isConstant || Modifier.isFinal(field.getModifiers()), true);
            if (of == WordMachines.class) {
                String want = field.getName().equals("NONE") ? "public static final" : "private";
                Check.due(field + " is seen", Modifier.toString(field.getModifiers()).startsWith(want), true);
            }
        }
        Check.due("fields of " + of, own <= 20, true);
    }
}
