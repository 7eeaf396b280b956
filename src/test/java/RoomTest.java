import java.lang.reflect.Array;
import java.lang.reflect.Field;
import java.lang.reflect.Modifier;
import java.util.ArrayDeque;
import java.util.Collections;
import java.util.Deque;
import java.util.IdentityHashMap;
import java.util.Set;

/** All calls of a run live in one room: an object is small, and no call makes it any larger. */
public final class RoomTest {
    private static long objects;
    private static long elements;

    public static void main(String[] args) throws ReflectiveOperationException {
        weigh(new MillInspectors());
        long newObjects = objects;
        long newElements = elements;
        Due.holds("a new object is some hundred objects at most: " + newObjects, newObjects <= 120);
        Due.holds("a new object is some thousand elements: " + newElements, newElements <= 8000);
        for (int row = 0; row < Answers.ROWS; row++) {
            MillInspectors x = Busy.made();
            Answers.row(row, x);
            weigh(x);
            Due.is("objects behind the calls of row " + row, objects, newObjects);
            Due.is("elements behind the calls of row " + row, elements, newElements);
        }
        callsMakeNothing();
        Due.end("RoomTest");
    }

    /** Counts what can be reached from an object: objects and arrays, their fields and elements. */
    private static void weigh(Object from) throws ReflectiveOperationException {
        objects = 0;
        elements = 0;
        Set<Object> seen = Collections.newSetFromMap(new IdentityHashMap<>());
        Deque<Object> open = new ArrayDeque<>();
        open.add(from);
        while (!open.isEmpty()) {
            Object next = open.remove();
            if (!seen.add(next)) {
                continue;
            }
            objects++;
            if (next.getClass().isArray()) {
                elements += Array.getLength(next);
                Due.holds("arrays hold numbers alone", next.getClass().getComponentType().isPrimitive());
                continue;
            }
            for (Field f : next.getClass().getDeclaredFields()) {
                if (Modifier.isStatic(f.getModifiers())) {
                    continue;
                }
                elements++;
                f.setAccessible(true);
                Object held = f.get(next);
                if (!f.getType().isPrimitive() && held != null) {
                    open.add(held);
                }
            }
        }
    }

    /** The dearest calls, many times: what the machine counts for this thread stays as good as nothing. */
    private static void callsMakeNothing() {
        com.sun.management.ThreadMXBean machine =
            (com.sun.management.ThreadMXBean) java.lang.management.ManagementFactory.getThreadMXBean();
        MillInspectors x = Busy.made();
        dearest(x);
        long before = machine.getThreadAllocatedBytes(Thread.currentThread().getId());
        for (int turn = 0; turn < 20; turn++) {
            dearest(x);
        }
        long made = machine.getThreadAllocatedBytes(Thread.currentThread().getId()) - before;
        Due.holds("bytes made by 200 dear calls: " + made, made < 20000);
    }

    private static void dearest(MillInspectors x) {
        x.act();
        x.can(6, 3, 1800, 6, 0);
        x.can(6, 3, 450, 2, 1);
        x.lost(2000, 10, 240);
        x.way(200, 0);
        x.doubted(0, 0, 1);
        x.breach(0, 0, 0);
        x.sue(0, 0, 0, 5);
        x.duty(0, 0, 0, 0, 1);
        x.fines(MillInspectors.NONE);
    }
}
