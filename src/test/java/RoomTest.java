import java.lang.reflect.Array;
import java.lang.reflect.Field;
import java.lang.reflect.Modifier;
import java.util.ArrayDeque;
import java.util.Collections;
import java.util.Deque;
import java.util.IdentityHashMap;
import java.util.Set;

/** What an object holds is made with it, and so little that 512 of them have room at once. */
public final class RoomTest {
    private static final int CALLS = 512;
    private static final int OBJECTS = 600_000;
    private static final int ELEMENTS = 7_300_000;
    private static final Check check = new Check();

    private int objects;
    private int elements;

    public static void main(String[] args) throws IllegalAccessException {
        FoamBlocks x = new FoamBlocks();
        RoomTest before = new RoomTest();
        before.walk(x);
        check.due("objects of 512", before.objects * CALLS <= OBJECTS, true);
        check.due("fields and elements of 512", before.elements * CALLS <= ELEMENTS, true);
        use(x);
        RoomTest after = new RoomTest();
        after.walk(x);
        check.due("objects after 512 calls", after.objects, before.objects);
        check.due("fields and elements after 512 calls", after.elements, before.elements);
        check.end();
    }

    private static void use(FoamBlocks x) {
        x.kind(50, 1);
        x.length(5);
        for (int i = 0; i < CALLS / 8; i++) {
            x.pour(0, 15);
            x.cut();
            x.lay();
            x.pass(24);
            x.order(0, 0, 3, 7, 9);
            x.fill(i);
            x.pieces(7, 3);
            x.best(0, 2000);
        }
        check.due("ORDERS", x.count(7), 40);
        check.due("BLOCKS", x.count(5), 192);
    }

    private void walk(Object start) throws IllegalAccessException {
        Set<Object> seen = Collections.newSetFromMap(new IdentityHashMap<>());
        Deque<Object> open = new ArrayDeque<>();
        seen.add(start);
        open.add(start);
        while (!open.isEmpty()) {
            Object one = open.remove();
            objects++;
            if (one.getClass().isArray()) {
                elements += Array.getLength(one);
                continue;
            }
            for (Field f : one.getClass().getDeclaredFields()) {
                if (Modifier.isStatic(f.getModifiers())) {
                    continue;
                }
                elements++;
                f.setAccessible(true);
                Object held = f.getType().isPrimitive() ? null : f.get(one);
                if (held != null && seen.add(held)) {
                    open.add(held);
                }
            }
        }
    }
}
