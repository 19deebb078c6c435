import java.lang.management.ManagementFactory;
import java.lang.reflect.Array;
import java.lang.reflect.Field;
import java.lang.reflect.Modifier;
import java.util.ArrayDeque;
import java.util.Collections;
import java.util.Deque;
import java.util.IdentityHashMap;
import java.util.Random;
import java.util.Set;

/** All calls of a run live in one room: an object is small, and calls make nothing. */
public final class RoomTest {
    private static long objects;
    private static long elements;

    private static void measure(Object root) throws ReflectiveOperationException {
        objects = 0;
        elements = 0;
        Set<Object> met = Collections.newSetFromMap(new IdentityHashMap<>());
        Deque<Object> open = new ArrayDeque<>();
        open.push(root);
        while (!open.isEmpty()) {
            Object one = open.pop();
            if (!met.add(one)) continue;
            objects++;
            if (one.getClass().isArray()) measureArray(one, open);
            else measureFields(one, open);
        }
    }

    private static void measureArray(Object array, Deque<Object> open) {
        int length = Array.getLength(array);
        elements += length;
        if (array.getClass().getComponentType().isPrimitive()) return;
        for (int i = 0; i < length; i++) if (Array.get(array, i) != null) open.push(Array.get(array, i));
    }

    private static void measureFields(Object one, Deque<Object> open) throws ReflectiveOperationException {
        for (Field field : one.getClass().getDeclaredFields()) {
            if (Modifier.isStatic(field.getModifiers())) continue;
            elements++;
            if (field.getType().isPrimitive()) continue;
            field.setAccessible(true);
            if (field.get(one) != null) open.push(field.get(one));
        }
    }

    private static void use(PairTexts x, byte[][] books) {
        for (byte[] book : books) {
            for (int from = 0; from + 20 <= book.length; from += 20)
                x.feed(four(book, from), four(book, from + 4), four(book, from + 8), four(book, from + 12), four(book, from + 16));
            x.load(book.length / 20 * 20);
            for (int t = 0; t < 8; t++) {
                for (int i = 0; i < 8; i++) {
                    x.many(i);
                    x.of(t, i);
                    x.rule(t, i, 4);
                    x.rule(t, i, 6);
                    x.around(t, i, i);
                    x.against(t, i, i % 4);
                    x.find(t, i, 0);
                    x.finds(t, i);
                    x.alike(t, 0, i, 0);
                    x.sorted(i);
                    x.would(t, 0, i, i);
                }
                x.splice(t, 0, 1, 7 - t);
                x.mark();
                x.take(t, 0, 2);
                x.join(t, t);
                x.repeat(t, 3);
                x.turn(t);
                x.rename(t, 0, 1);
                x.value(t);
                x.mirror(t, 1, true);
                x.rank(t, 0, 1);
                x.select(t, 0, 1);
                x.drop(t);
                x.undo();
                x.back();
                x.fault(0);
            }
        }
    }

    private static int four(byte[] book, int from) {
        return book[from] << 24 | book[from + 1] << 16 | book[from + 2] << 8 | book[from + 3];
    }

    public static void main(String[] args) throws ReflectiveOperationException {
        Books books = new Books(new Random(3));
        byte[][] some = new byte[60][];
        for (int i = 0; i < some.length; i++) some[i] = books.book();
        PairTexts x = new PairTexts();
        measure(x);
        System.out.println("an object: " + objects + " objects and arrays, " + elements + " fields and elements");
        Check.due("few objects", objects < 200 ? 1 : 0, 1);
        Check.due("few elements", elements < 200_000 ? 1 : 0, 1);
        long objectsAhead = objects;
        long elementsAhead = elements;
        use(x, some);
        measure(x);
        Check.due("no object more", objects, objectsAhead);
        Check.due("no element more", elements, elementsAhead);
        PairTexts y = new PairTexts();
        var threads = (com.sun.management.ThreadMXBean) ManagementFactory.getThreadMXBean();
        long id = Thread.currentThread().getId();
        threads.getThreadAllocatedBytes(id);
        long ahead = threads.getThreadAllocatedBytes(id);
        use(y, some);
        long made = threads.getThreadAllocatedBytes(id) - ahead;
        Check.due("bytes made by calls", made < 4096 ? 0 : made, 0);
        Check.end("RoomTest");
    }
}
