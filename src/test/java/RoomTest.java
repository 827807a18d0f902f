import com.sun.management.ThreadMXBean;
import java.lang.management.ManagementFactory;
import java.lang.reflect.Array;
import java.lang.reflect.Field;
import java.lang.reflect.Modifier;
import java.util.IdentityHashMap;
import java.util.Map;

/** An object fits into the room many times over, and its dearest calls make nothing more. */
public final class RoomTest {
    private static final long MOST_ELEMENTS = 100_000;
    private static final long MOST_OBJECTS = 200;
    private static final long MOST_BYTES = 20_000;
    // Of eleven calls each: with those that tell the machines an object has just less than 512.
    private static final int ROUNDS = 34;

    private static long elements = 0;

    public static void main(String[] args) throws IllegalAccessException {
        WordMachines x = new WordMachines();
        Map<Object, Boolean> met = new IdentityHashMap<>();
        count(x, met);
        System.out.println(met.size() + " objects and arrays, " + elements + " fields and elements");
        Check.due("objects of one object", met.size() <= MOST_OBJECTS, true);
        Check.due("elements of one object", elements <= MOST_ELEMENTS, true);
        makesNothing();
        Check.end();
    }

    private static void count(Object o, Map<Object, Boolean> met) throws IllegalAccessException {
        if (o == null || met.put(o, true) != null) {
            return;
        }
        if (o.getClass().isArray()) {
            elements += Array.getLength(o);
            if (o instanceof Object[] all) {
                for (Object one : all) {
                    count(one, met);
                }
            }
            return;
        }
        for (Field field : o.getClass().getDeclaredFields()) {
            if (!Modifier.isStatic(field.getModifiers())) {
                elements++;
                field.setAccessible(true);
                if (!field.getType().isPrimitive()) {
                    count(field.get(o), met);
                }
            }
        }
    }

    private static WordMachines dear() {
        WordMachines x = new WordMachines();
        x.blank(0, 24);
        x.blank(1, 11);
        for (int state = 0; state < 24; state++) {
            x.mark(0, state, state == 0 ? 1 : 0);
            x.arc(0, state, 0, (state + 1) % 24, true);
            x.arc(0, state, 1, state, true);
        }
        for (int state = 0; state < 11; state++) {
            x.mark(1, state, state == 0 ? 3 : 1);
            x.arc(1, state, 0, (state + 1) % 11, true);
            x.arc(1, state, 2, state, true);
            if (state != 0) {
                x.arc(1, state, 1, state, true);
            }
        }
        Ask.setText(x, "((((((((((a*b|c)+d|e)?f|g)[^a-c]).)*a[a-h][b-ce])))))*.*.*.*.*.*.*.*.*.*.");
        return x;
    }

    private static void dearCalls(WordMachines x) {
        x.within(0, 1);
        x.words(1, 20);
        x.sets(1);
        x.rests(1);
        x.read(2);
        x.turn(3, 0);
        x.either(4, 1, 1);
        x.both(5, 0, 7);
        x.takes(0);
        x.wipe();
        x.feed(8, Ask.PIECE);
    }

    private static void makesNothing() {
        ThreadMXBean threads = (ThreadMXBean) ManagementFactory.getThreadMXBean();
        WordMachines x = dear();
        dearCalls(x);
        Check.due("the dear text has no fault", x.fault(), 0);
        x = dear();
        long before = threads.getThreadAllocatedBytes(Thread.currentThread().getId());
        for (int t = 0; t < ROUNDS; t++) {
            dearCalls(x);
        }
        long made = threads.getThreadAllocatedBytes(Thread.currentThread().getId()) - before;
        System.out.println(made + " bytes made by " + 11 * ROUNDS + " calls");
        Check.due("dear calls make next to nothing", made < MOST_BYTES, true);
    }
}
