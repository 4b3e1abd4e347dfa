import com.sun.management.ThreadMXBean;
import java.lang.management.ManagementFactory;
import java.lang.reflect.Array;
import java.lang.reflect.Field;
import java.lang.reflect.Modifier;
import java.util.ArrayDeque;
import java.util.Collections;
import java.util.Deque;
import java.util.IdentityHashMap;
import java.util.Set;

/** The room that an object takes: a new one stays as small as README.md says, and no call makes more. */
public final class RoomTest {
    private static final int MOST_OBJECTS = 50;
    private static final int MOST_ELEMENTS = 5300;
    private static final int ROUNDS = 400;
    /** Were one call in a round to make but one object, the rounds would make 16 bytes each. */
    private static final long MOST_BYTES = 16 * ROUNDS / 4;

    private static int answers = 0;

    public static void main(String[] args) throws IllegalAccessException {
        ProgramSlices desk = new ProgramSlices();
        Set<Object> before = heldBy(desk);
        Expect.same("objects and arrays of a new object: " + before.size(), before.size() <= MOST_OBJECTS, true);
        long elements = elementsOf(before);
        Expect.same("fields and elements of a new object: " + elements, elements <= MOST_ELEMENTS, true);
        allCalls(desk);
        Set<Object> after = heldBy(desk);
        Expect.same("held after the calls", after.size(), before.size());
        Expect.same("the same ones", before.containsAll(after), true);
        callsMakeNothing();
        Expect.finish();
    }

    private static Set<Object> heldBy(Object root) throws IllegalAccessException {
        Set<Object> found = Collections.newSetFromMap(new IdentityHashMap<>());
        Deque<Object> open = new ArrayDeque<>();
        found.add(root);
        open.push(root);
        while (!open.isEmpty()) {
            Object object = open.pop();
            for (Field field : object.getClass().getDeclaredFields()) {
                if (!Modifier.isStatic(field.getModifiers()) && !field.getType().isPrimitive()) {
                    field.setAccessible(true);
                    Object value = field.get(object);
                    if (found.add(value) && !value.getClass().isArray()) {
                        open.push(value);
                    }
                }
            }
        }
        return found;
    }

    private static long elementsOf(Set<Object> objects) {
        long sum = 0;
        for (Object object : objects) {
            if (object.getClass().isArray()) {
                sum += Array.getLength(object);
            } else {
                for (Field field : object.getClass().getDeclaredFields()) {
                    sum += Modifier.isStatic(field.getModifiers()) ? 0 : 1;
                }
            }
        }
        return sum;
    }

    /** Every call of the face, good and refused. */
    private static void allCalls(ProgramSlices desk) {
        desk.clear();
        answers += desk.add(Ops.INPUT, 0, 0, 0) + desk.add(Ops.CALL_1, 1, 0, 0) + desk.add(Ops.WHILE, 0, 0, 0);
        answers += desk.add(Ops.STORE, 0, 0, 1) + desk.add(Ops.CALL_1, 2, 1, 0) + desk.add(Ops.SUB, 0, 0, 3);
        answers += desk.add(Ops.CONST, 3, 1, 0) + desk.add(Ops.DIV, 1, 1, 3) + desk.add(99, 0, 0, 0) + desk.build();
        answers += desk.add(Ops.END, 0, 0, 0) + desk.add(Ops.OUTPUT, 0, 2, 0) + desk.add(Ops.PROC, 0, 0, 0);
        answers += desk.add(Ops.LOAD, 2, 0, 0) + desk.add(Ops.MUL, 0, 0, 1) + desk.build() + desk.build();
        answers += count(desk.levels(3)) + count(desk.below(0, 1)) + count(desk.below(1, 2)) + count(desk.levels(9));
        answers += count(desk.label(false, 0, 2)) + count(desk.label(true, 9, 0)) + desk.lattice() + desk.check();
        answers += desk.flow(0) + desk.flow(99) + desk.depends(9, 4) + count(desk.summary(1, 0, 0));
        answers += desk.slice(3, true) + desk.fit() + desk.slice(9, false) + desk.fit() + count(desk.sliced(3));
        answers += count(desk.input(0, 3)) + desk.run(true, 600) + desk.run(false, 600) + desk.run(false, -1);
        answers += desk.steps() + desk.seen(-1) + desk.seen(0) + desk.written(0, -1) + desk.written(0, 0);
    }

    private static int count(boolean answer) {
        return answer ? 1 : 0;
    }

    private static void callsMakeNothing() {
        ThreadMXBean threads = (ThreadMXBean) ManagementFactory.getThreadMXBean();
        ProgramSlices[] desks = new ProgramSlices[ROUNDS];
        for (int i = 0; i < ROUNDS; i++) {
            desks[i] = new ProgramSlices();
        }
        long made = madeBy(threads, desks);
        // The first rounds load classes, which takes room of its own.
        made = Math.min(made, madeBy(threads, desks));
        Expect.same("bytes made by the calls: " + made, made <= MOST_BYTES, true);
    }

    private static long madeBy(ThreadMXBean threads, ProgramSlices[] desks) {
        long before = threads.getCurrentThreadAllocatedBytes();
        for (ProgramSlices desk : desks) {
            allCalls(desk);
        }
        return threads.getCurrentThreadAllocatedBytes() - before;
    }
}
