import java.lang.management.ManagementFactory;
import java.lang.reflect.Array;
import java.lang.reflect.Field;
import java.lang.reflect.Modifier;
import java.util.ArrayDeque;
import java.util.Collections;
import java.util.IdentityHashMap;
import java.util.Set;

/** All calls of one run live in one room: an object is small, and no call makes another. */
public final class RoomTest {
    private static final int CALLS = 512;
    private static final int MOST_OBJECTS = 200;
    private static final int MOST_PARTS = 20000;
    /** The calls make nothing; the machine itself may make a little while they are run. */
    private static final long MOST_BYTES = 16 * CALLS;

    public static void main(String[] args) throws IllegalAccessException {
        BlindTables x = new BlindTables();
        String before = size(x);
        dearLife(x);
        Check.due("the size after a life of " + CALLS + " calls", size(x), before);
        noCallMakesObjects();
        Check.end();
    }

    /** How many objects and arrays hang on the object, and how many fields and elements they have. */
    private static String size(BlindTables x) throws IllegalAccessException {
        Set<Object> met = Collections.newSetFromMap(new IdentityHashMap<>());
        ArrayDeque<Object> open = new ArrayDeque<>();
        met.add(x);
        open.add(x);
        int parts = 0;
        while (!open.isEmpty()) {
            Object next = open.remove();
            Object[] held = next.getClass().isArray() ? elements(next) : fields(next);
            parts += held.length;
            for (Object one : held) {
                if (one != null && !(one instanceof Number) && !(one instanceof Boolean) && met.add(one)) {
                    open.add(one);
                }
            }
        }
        Check.due("more than " + MOST_OBJECTS + " objects: " + met.size(), met.size() > MOST_OBJECTS, false);
        Check.due("more than " + MOST_PARTS + " fields and elements: " + parts, parts > MOST_PARTS, false);
        return met.size() + " objects, " + parts + " fields and elements";
    }

    private static Object[] elements(Object array) {
        Object[] held = new Object[Array.getLength(array)];
        for (int i = 0; i < held.length; i++) {
            held[i] = Array.get(array, i);
        }
        return held;
    }

    private static Object[] fields(Object object) throws IllegalAccessException {
        ArrayDeque<Field> own = new ArrayDeque<>();
        for (Field field : object.getClass().getDeclaredFields()) {
            if (!Modifier.isStatic(field.getModifiers())) {
                own.add(field);
            }
        }
        Object[] held = new Object[own.size()];
        for (int i = 0; i < held.length; i++) {
            Field field = own.remove();
            field.setAccessible(true);
            held[i] = field.get(object);
        }
        return held;
    }

    private static void noCallMakesObjects() {
        com.sun.management.ThreadMXBean threads =
            (com.sun.management.ThreadMXBean) ManagementFactory.getThreadMXBean();
        dearLife(new BlindTables());
        BlindTables x = new BlindTables();
        threads.getCurrentThreadAllocatedBytes();
        long before = threads.getCurrentThreadAllocatedBytes();
        dearLife(x);
        long made = threads.getCurrentThreadAllocatedBytes() - before;
        Check.due("the calls made objects of " + made + " bytes", made > MOST_BYTES, false);
    }

    /** Every call of the face, and as many runs of the dearest plan as there are calls for. */
    private static void dearLife(BlindTables x) {
        for (int r = 0; r < 12; r++) {
            x.add(0, r / 2, r, r);
            x.add(1, r / 2, r, r);
            x.add(2, r, r, r);
        }
        x.plan(0);
        x.filter(0, 2, -1);
        x.pick(0, 2, 1);
        x.distinct();
        x.run();
        x.plan(0);
        x.group(0, 1);
        x.run();
        x.put(0, 0, 0);
        x.drop(0);
        x.apply(0);
        x.put(0, 1, 1);
        x.apply(0);
        x.plan(0);
        x.join(1, 0, 0);
        x.join(2, 0, 0);
        x.join(2, 0, 0);
        Check.due("the dearest plan has a result", x.run(), 24);
        Check.due("and the longest trace", x.length(), 14688);
        Check.due("its first cell", x.cell(0, 0), 0);
        Check.due("its first access", x.access(0), 0);
        Check.due("rows", x.rows(0), 12);
        Check.due("sum", x.sum(0), x.sum(1));
        for (int calls = 36 + 24; calls < CALLS; calls++) {
            x.run();
        }
    }
}
