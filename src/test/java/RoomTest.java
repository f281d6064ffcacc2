import java.lang.management.ManagementFactory;
import java.lang.reflect.Array;
import java.lang.reflect.Field;
import java.lang.reflect.Modifier;
import java.util.ArrayDeque;
import java.util.Collections;
import java.util.Deque;
import java.util.IdentityHashMap;
import java.util.Set;

/** What a new object takes of the room, and that no call takes more. */
public final class RoomTest {
    private static int objects = 0;
    private static int elements = 0;

    public static void main(String[] args) throws Exception {
        FourCubes x = new FourCubes();
        measure(x);
        System.out.println("a new object: " + objects + " objects, " + elements + " fields and elements");
        Check.yes("few objects", objects <= 100);
        Check.yes("few elements", elements <= 10000);
        callsMakeNothing(x);
        Check.finish("RoomTest");
    }

    private static void measure(Object root) throws IllegalAccessException {
        Set<Object> seen = Collections.newSetFromMap(new IdentityHashMap<>());
        Deque<Object> open = new ArrayDeque<>();
        open.add(root);
        while (!open.isEmpty()) {
            Object at = open.poll();
            if (!seen.add(at)) {
                continue;
            }
            objects++;
            if (at.getClass().isArray()) {
                elements += Array.getLength(at);
                if (at instanceof Object[]) {
                    Collections.addAll(open, (Object[]) at);
                }
                continue;
            }
            for (Field f : at.getClass().getDeclaredFields()) {
                if (!Modifier.isStatic(f.getModifiers())) {
                    elements++;
                    f.setAccessible(true);
                    if (!f.getType().isPrimitive()) {
                        open.add(f.get(at));
                    }
                }
            }
        }
    }

    private static void callsMakeNothing(FourCubes x) {
        com.sun.management.ThreadMXBean threads = (com.sun.management.ThreadMXBean) ManagementFactory.getThreadMXBean();
        all(x);
        long id = Thread.currentThread().getId();
        threads.getThreadAllocatedBytes(id);
        long before = threads.getThreadAllocatedBytes(id);
        for (int k = 0; k < 10; k++) {
            all(x);
        }
        long made = threads.getThreadAllocatedBytes(id) - before;
        System.out.println("bytes made by 10 rounds of all calls: " + made);
        Check.yes("no call makes an object", made < 2000);
    }

    private static long all(FourCubes x) {
        long sum = x.cube(123456) + x.box(15) + x.paint(0, 6) + x.paint(0, 2) + x.of(0, 10) + x.turn(0, 3) + x.shows(0, 3, 2);
        sum += x.feed('a') + x.feed('<') + x.feed('7') + x.law() + x.feed('?') + x.law();
        sum += x.judge() + x.ways(0, -1) + x.ways(0, 0) + x.near(0) + x.build(0, 1) + x.mend(0) + x.mend(1) + x.open(0) + x.swap(0);
        sum += x.rings(0) + x.rings(1) + x.alike(1) + x.many(6, 1) + x.sight(123, -1) + x.wall(-1) + x.wall(0) + x.great(0);
        sum += x.undo() + x.redo() + x.body(5) + x.act(0, 3, 7) + x.trace(0) + x.keep(0, 0) + x.taken(0, 0);
        sum += x.row(1, 0, 60) + x.put(1, 3, 4) + x.element(1, 3) + x.shift(1, 0, 1, 6, 20) + x.cubes(1, 0, 8) + x.count(0);
        return sum;
    }
}
