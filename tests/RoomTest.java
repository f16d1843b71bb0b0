import java.lang.reflect.Array;
import java.lang.reflect.Field;
import java.lang.reflect.Modifier;
import java.util.ArrayDeque;
import java.util.Collections;
import java.util.Deque;
import java.util.IdentityHashMap;
import java.util.Set;

/** How much room one object takes: all rows are made by the constructor, and 512 calls add nothing to them. */
final class RoomTest {
    private static final int MOST_OBJECTS = 150, MOST_ELEMENTS = 16000;

    private static final Check C = new Check("RoomTest");

    private int objects;
    private int elements;

    public static void main(String[] args) throws IllegalAccessException {
        BladeRing x = new BladeRing();
        RoomTest at = new RoomTest();
        at.measure(x);
        System.out.println("RoomTest: " + at.objects + " objects, " + at.elements + " fields and elements");
        C.due("few objects", at.objects <= MOST_OBJECTS ? 1 : 0, 1);
        C.due("few elements", at.elements <= MOST_ELEMENTS ? 1 : 0, 1);
        use(x);
        RoomTest then = new RoomTest();
        then.measure(x);
        C.due("objects after 512 calls", then.objects, at.objects);
        C.due("elements after 512 calls", then.elements, at.elements);
        C.close();
    }

    private static void use(BladeRing x) {
        x.ring(8);
        for (int i = 0; i < 36; i++) {
            x.feed(0x7530207530203320L);
            x.feed(0x32302875302e6f30L);
            x.feed(0x2920202020202020L);
            x.figure();
            x.village();
            x.add(i % 4, i % 8);
            x.keep();
            x.sheet(i % 4, i % 3, i);
            x.act(i % 2, i % 8);
            x.way(i % 6);
            x.dance(i % 8);
            x.order(i % 8);
            x.shared(i % 4, 1, -4);
            x.undo();
        }
    }

    private void measure(BladeRing x) throws IllegalAccessException {
        Set<Object> seen = Collections.newSetFromMap(new IdentityHashMap<>());
        Deque<Object> open = new ArrayDeque<>();
        seen.add(x);
        open.add(x);
        while (!open.isEmpty()) {
            Object one = open.remove();
            objects++;
            if (one.getClass().isArray()) {
                measureRow(one, seen, open);
            } else {
                measureFields(one, seen, open);
            }
        }
    }

    private void measureRow(Object row, Set<Object> seen, Deque<Object> open) {
        elements += Array.getLength(row);
        for (int i = 0; i < Array.getLength(row) && !row.getClass().getComponentType().isPrimitive(); i++) {
            find(Array.get(row, i), seen, open);
        }
    }

    private void measureFields(Object one, Set<Object> seen, Deque<Object> open) throws IllegalAccessException {
        for (Field f : one.getClass().getDeclaredFields()) {
            if (!Modifier.isStatic(f.getModifiers())) {
                elements++;
                f.setAccessible(true);
                if (!f.getType().isPrimitive()) {
                    find(f.get(one), seen, open);
                }
            }
        }
    }

    private static void find(Object one, Set<Object> seen, Deque<Object> open) {
        if (one != null && seen.add(one)) {
            open.add(one);
        }
    }
}
