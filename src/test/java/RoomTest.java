import com.sun.management.ThreadMXBean;
import java.lang.management.ManagementFactory;
import java.lang.reflect.Array;
import java.lang.reflect.Field;
import java.lang.reflect.Modifier;
import java.util.ArrayDeque;
import java.util.Deque;
import java.util.IdentityHashMap;
import java.util.Map;

/** A finder fits into its room: it is small when it is made, and its calls make nothing more. */
public final class RoomTest extends Checks {
    private static final int CALLS = 512;
    private static final int MOST_OBJECTS = 600_000;
    private static final int MOST_PARTS = 7_300_000;
    // the smallest object has 16 bytes, so one object a call is more than this
    private static final long SOME_BYTES = 8_000;
    private static final String SIXTY = "cacbba ccbcab cbccab acbcac acacca cccabc";

    private int objects;
    private int parts;

    public static void main(String[] args) throws IllegalAccessException {
        RoomTest room = new RoomTest();
        room.count(new PatternFinder());
        // even a run in which each call made a finder would fit
        due(1, "its objects fit", room.objects * CALLS < MOST_OBJECTS, true);
        due(1, "its fields and elements fit", room.parts < MOST_PARTS / 100, true);
        due(11, "looks that keep too many make nothing", makesNothing(finder(SIXTY, ""), x -> x.look(60)), true);
        due(11, "looks that find make nothing", makesNothing(finder("ab bb bbab abb", " a ba"), x -> x.look(60)), true);
        due(20, "counting makes nothing", makesNothing(found("ab bb bbab abb", " a ba"), x -> x.count(6)), true);
        due(21, "first makes nothing", makesNothing(found("cccccc", "c cc ccc cccc ccccc "), PatternFinder::first), true);
        due(2, "adding and dropping makes nothing", makesNothing(new PatternFinder(), x -> {
            x.add(w("abcabc"), true);
            x.drop();
        }), true);
        due(26, "taking and joining makes nothing", makesNothing(found("ab", "a b"), x -> {
            x.take();
            x.take();
            x.join(6);
            x.wrap(3);
            x.push(2, 97);
            x.pop();
            x.topWrong();
            x.digest();
            x.pop();
        }), true);
        end("RoomTest");
    }

    private interface Calls {
        void on(PatternFinder x);
    }

    private static boolean makesNothing(PatternFinder x, Calls calls) {
        ThreadMXBean threads = (ThreadMXBean) ManagementFactory.getThreadMXBean();
        long self = Thread.currentThread().getId();
        calls.on(x);
        long before = threads.getThreadAllocatedBytes(self);
        for (int call = 0; call < CALLS; call++) {
            calls.on(x);
        }
        return threads.getThreadAllocatedBytes(self) - before < SOME_BYTES;
    }

    /** Counts all that hangs on an object. */
    private void count(Object root) throws IllegalAccessException {
        Map<Object, Boolean> seen = new IdentityHashMap<>();
        Deque<Object> open = new ArrayDeque<>();
        open.add(root);
        while (!open.isEmpty()) {
            Object next = open.remove();
            if (seen.put(next, true) == null) {
                objects++;
                if (next.getClass().isArray()) {
                    countElements(next, open);
                } else {
                    countFields(next, open);
                }
            }
        }
    }

    private void countElements(Object array, Deque<Object> open) {
        parts += Array.getLength(array);
        for (int index = 0; array instanceof Object[] && index < Array.getLength(array); index++) {
            open.add(Array.get(array, index));
        }
    }

    private void countFields(Object object, Deque<Object> open) throws IllegalAccessException {
        for (Field field : object.getClass().getDeclaredFields()) {
            if (!Modifier.isStatic(field.getModifiers())) {
                parts++;
                field.setAccessible(true);
                if (!field.getType().isPrimitive()) {
                    open.add(field.get(object));
                }
            }
        }
    }
}
