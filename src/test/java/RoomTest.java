import java.lang.management.ManagementFactory;
import java.lang.reflect.Array;
import java.lang.reflect.Field;
import java.lang.reflect.Modifier;
import java.util.ArrayDeque;
import java.util.Collections;
import java.util.Deque;
import java.util.IdentityHashMap;
import java.util.Set;

/** How much room an object takes: all of a run's objects share one, and calls must not use it up. */
public final class RoomTest {
    private static final Check check = new Check();
    private static final int ROUNDS = 8;
    private static final int OBJECTS = 36;
    private static final int MOST_ELEMENTS = 1100;

    private int objects;
    private int elements;

    public static void main(String[] args) throws IllegalAccessException {
        RulePayroll x = new RulePayroll();
        RoomTest before = of(x);
        check.due("objects", OBJECTS, before.objects);
        check.due("some 1,100 fields and elements", 1, before.elements <= MOST_ELEMENTS ? 1 : 0);
        use(x);
        RoomTest after = of(x);
        check.due("objects after use", before.objects, after.objects);
        check.due("elements after use", before.elements, after.elements);
        check.due("bytes that calls make", 0, fewestBytesMade());
        check.end();
    }

    /** The first rounds load classes, for which the machine itself makes objects. */
    private static long fewestBytesMade() {
        com.sun.management.ThreadMXBean threads = (com.sun.management.ThreadMXBean) ManagementFactory.getThreadMXBean();
        long fewest = Long.MAX_VALUE;
        for (int round = 0; round < ROUNDS; round++) {
            RulePayroll x = new RulePayroll();
            long before = threads.getCurrentThreadAllocatedBytes();
            use(x);
            fewest = Math.min(fewest, threads.getCurrentThreadAllocatedBytes() - before);
        }
        return fewest;
    }

    /** Every call, answered and refused, until there is no room for nodes, steps and runs. */
    private static void use(RulePayroll x) {
        for (int n = 0; n < 72; n++) {
            x.node(n % 21, n % 2, n % 2, n % 2);
        }
        for (int i = 0; i < 9; i++) {
            x.define(i, i);
            x.step(i % 3, 10 * i, 100 * i);
            x.step(i % 2, 1000 * i, 100 * i);
            x.activate(i, true);
            x.input(i, 0, 100 * i);
            x.input(i, 2, 100 * i);
        }
        x.define(0, 1);
        x.define(1, 0);
        x.define(2, x.node(Check.INPUT, 2, 0, 0));
        for (int r = 0; r < 17; r++) {
            x.pay();
            x.again(r);
            x.back(r - 3);
            for (int p = 0; p < 7; p++) {
                x.slip(r, p, 0);
                x.held(r, p);
            }
        }
        for (int i = 0; i < 9; i++) {
            x.value(i, 10 + i);
            x.count(i);
            x.account(i);
            x.paid(i, 1);
            x.undefine(i);
            x.clear(i);
        }
    }

    private static RoomTest of(RulePayroll x) throws IllegalAccessException {
        RoomTest room = new RoomTest();
        Set<Object> seen = Collections.newSetFromMap(new IdentityHashMap<>());
        Deque<Object> todo = new ArrayDeque<>();
        todo.add(x);
        while (!todo.isEmpty()) {
            Object next = todo.remove();
            if (seen.add(next)) {
                room.objects++;
                if (next.getClass().isArray()) {
                    room.addElements(next, todo);
                } else {
                    room.addFields(next, todo);
                }
            }
        }
        return room;
    }

    private void addElements(Object array, Deque<Object> todo) {
        elements += Array.getLength(array);
        if (array instanceof Object[]) {
            for (Object element : (Object[]) array) {
                if (element != null) {
                    todo.add(element);
                }
            }
        }
    }

    private void addFields(Object object, Deque<Object> todo) throws IllegalAccessException {
        for (Field field : object.getClass().getDeclaredFields()) {
            if (!Modifier.isStatic(field.getModifiers())) {
                elements++;
                field.setAccessible(true);
                Object held = field.getType().isPrimitive() ? null : field.get(object);
                if (held != null) {
                    todo.add(held);
                }
            }
        }
    }
}
