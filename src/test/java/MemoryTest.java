import java.lang.management.ManagementFactory;
import java.lang.reflect.Array;
import java.lang.reflect.Field;
import java.lang.reflect.Modifier;
import java.util.ArrayList;
import java.util.IdentityHashMap;
import java.util.List;
import java.util.Map;

/** "All memory is the class's own, made once." */
public final class MemoryTest {
    private static final int CALLS = 512;
    private static final int MOST_ELEMENTS = 25_000;

    public static void main(String[] args) throws IllegalAccessException {
        Due due = new Due();
        arraysAreMadeOnce(due);
        twoObjectsHaveNoArrayTogether(due);
        callsMakeNothing(due);
        due.end();
    }

    private static List<Object> arraysOf(CellRack rack) throws IllegalAccessException {
        List<Object> arrays = new ArrayList<>();
        for (Field f : CellRack.class.getDeclaredFields()) {
            if (!Modifier.isStatic(f.getModifiers()) && f.getType().isArray()) {
                f.setAccessible(true);
                arrays.add(f.get(rack));
            }
        }
        return arrays;
    }

    private static void arraysAreMadeOnce(Due due) throws IllegalAccessException {
        CellRack rack = new CellRack();
        List<Object> before = arraysOf(rack);
        run(rack);
        List<Object> after = arraysOf(rack);
        int elements = 0;
        for (int i = 0; i < before.size(); i++) {
            int n = i;
            due.is("array " + n + " is the same one", true, () -> before.get(n) == after.get(n));
            elements += Array.getLength(before.get(i));
        }
        int all = elements;
        due.is("all elements are few", true, () -> all <= MOST_ELEMENTS);
    }

    private static void twoObjectsHaveNoArrayTogether(Due due) throws IllegalAccessException {
        Map<Object, Object> all = new IdentityHashMap<>();
        List<Object> arrays = arraysOf(new CellRack());
        arrays.addAll(arraysOf(new CellRack()));
        for (Object array : arrays) {
            all.put(array, array);
        }
        due.is("each array is one of its own", arrays.size(), all::size);
    }

    private static void callsMakeNothing(Due due) {
        if (!(ManagementFactory.getThreadMXBean() instanceof com.sun.management.ThreadMXBean bean)
            || !bean.isThreadAllocatedMemorySupported()) {
            System.out.println("this Java machine does not count what a thread makes");
            return;
        }
        bean.setThreadAllocatedMemoryEnabled(true);
        long id = Thread.currentThread().getId();
        // The least of some runs, as the Java machine itself may make things at the first ones.
        long least = Long.MAX_VALUE;
        for (int i = 0; i < 20; i++) {
            CellRack rack = new CellRack();
            long before = bean.getThreadAllocatedBytes(id);
            long nothing = bean.getThreadAllocatedBytes(id) - before;
            before = bean.getThreadAllocatedBytes(id);
            run(rack);
            least = Math.min(least, bean.getThreadAllocatedBytes(id) - before - nothing);
        }
        long made = least;
        due.is("bytes made by " + CALLS + " calls that do not throw", 0, () -> Math.max(0, made));
    }

    private static long run(CellRack rack) {
        long sum = 0;
        for (int i = 0; i < CALLS / 16; i++) {
            int d = i % 16;
            int c = i % 66;
            sum += rack.feed(8, i) + rack.feed(1, i);
            sum += rack.write(d, c, i) ? 1 : 0;
            sum += rack.read(d, c) ? 1 : 0;
            sum += rack.outs(57) + rack.tag(d, c) + rack.cell(d, c) + rack.at(d, c, 69);
            sum += rack.corrupt(d, c, 62, 5, 8) ? 1 : 0;
            rack.lose(2);
            sum += rack.look(2) + rack.look(5);
            sum += rack.power() ? 1 : 0;
            sum += rack.fail(d) ? 1 : 0;
            sum += rack.replace(d) ? 1 : 0;
            sum += rack.look(3);
        }
        return sum;
    }
}
