import java.lang.management.ManagementFactory;
import java.lang.reflect.Array;
import java.lang.reflect.Field;
import java.lang.reflect.Modifier;
import java.util.ArrayDeque;
import java.util.Collections;
import java.util.IdentityHashMap;
import java.util.Set;

/** All calls of a run live in one room: what an object holds is small, and no call makes more. */
public final class RoomTest {
    private static final Check CHECK = new Check("RoomTest");
    private static int objects;
    private static int elements;

    public static void main(String[] args) throws IllegalAccessException {
        WishedResistor x = Check.box(97, 89, 83, 79);
        measure(x);
        System.out.println("RoomTest: " + objects + " objects and arrays, " + elements + " fields and elements");
        CHECK.due("few objects", objects < 1000 ? 1 : 0, 1);
        CHECK.due("few elements", elements < 100000 ? 1 : 0, 1);
        int before = objects;
        int elementsBefore = elements;
        useAll(x, 1);
        measure(x);
        CHECK.due("no more objects", objects, before);
        CHECK.due("no more elements", elements, elementsBefore);
        long made = allocated();
        made = allocated() - made;
        long from = allocated();
        useAll(x, 200);
        long bytes = allocated() - from - made;
        CHECK.due("calls make nothing, " + bytes + " bytes", bytes < 4096 ? 1 : 0, 1);
        CHECK.end();
    }

    private static long allocated() {
        return ((com.sun.management.ThreadMXBean) ManagementFactory.getThreadMXBean()).getThreadAllocatedBytes(Thread.currentThread().getId());
    }

    private static long useAll(WishedResistor x, int rounds) {
        long sum = 0;
        for (int i = 0; i < rounds; i++) {
            sum += x.sort(0, 90 + i % 9, i % 51) + x.part(i % 4) + x.join(i % 2, 0, i % 7) + x.net(0, 4) + x.ofSort(0, 2);
            sum += x.value(3, 0) + x.ends(3, 1) + x.shortly(3) + x.drawn(3, i) + x.within(3, i, 30, 99, 2, 30);
            sum += x.alike(0, 3) + x.turned(2, 3) + x.fails(3, 0, 0, 0) + x.worst(3, 1);
            sum += x.feed('(') + x.feed('a') + x.feed('|') + x.feed('b') + x.feed(')') + x.read() + x.print(3, 2);
            sum += x.reached(4) + x.reach(4, 30, 0) + x.fewest(7, 2) + x.nearest(7, 2, 4, 0) + x.make(90 + i % 9, 1);
            sum += x.points(6);
            for (int k = 0; k < 8; k++) {
                sum += x.edge(k % 6, (k + 1 + k / 6) % 6, 9 + k);
            }
            sum += x.tell(2, 3) + x.between(0, 3, 0) + x.without(0, 1, 2, 1) + x.dearest(0, 4) + x.bridges(0, 4) + x.ways(2);
            sum += x.tray(0, 0, 20) + x.lay(0, 3, 0) + x.shift(0, 0, 0, 5, 9) + x.at(0, 8) + x.image() + x.back() + x.count(5);
        }
        return sum;
    }

    private static void measure(Object root) throws IllegalAccessException {
        objects = 0;
        elements = 0;
        Set<Object> seen = Collections.newSetFromMap(new IdentityHashMap<>());
        ArrayDeque<Object> waiting = new ArrayDeque<>();
        waiting.add(root);
        seen.add(root);
        while (!waiting.isEmpty()) {
            Object o = waiting.remove();
            objects++;
            if (o.getClass().isArray()) {
                elements += Array.getLength(o);
                if (o instanceof Object[] row) {
                    for (Object e : row) {
                        put(e, seen, waiting);
                    }
                }
                continue;
            }
            for (Field f : o.getClass().getDeclaredFields()) {
                if (!Modifier.isStatic(f.getModifiers())) {
                    elements++;
                    f.setAccessible(true);
                    if (!f.getType().isPrimitive()) {
                        put(f.get(o), seen, waiting);
                    }
                }
            }
        }
    }

    private static void put(Object o, Set<Object> seen, ArrayDeque<Object> waiting) {
        if (o != null && seen.add(o)) {
            waiting.add(o);
        }
    }
}
