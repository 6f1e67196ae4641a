import java.lang.reflect.Array;
import java.lang.reflect.Field;
import java.lang.reflect.Modifier;
import java.util.ArrayDeque;
import java.util.Collections;
import java.util.Deque;
import java.util.IdentityHashMap;
import java.util.Set;

/**
 * What a desk makes lives in one room with all calls of its run: a new desk is small, and 512 of the
 * dearest calls add next to nothing.
 */
public final class RoomTest {
    private RoomTest() {
    }

    public static void main(String[] args) throws IllegalAccessException {
        RootDesk x = new RootDesk();
        long[] fresh = room(x);
        atMost("objects of a new desk", fresh[0], 1000);
        atMost("fields and elements of a new desk", fresh[1], 6000);
        warmUp();
        long before = allocated();
        RootDesk y = new RootDesk();
        long made = allocated() - before;
        before = allocated();
        hardCalls(y);
        long more = allocated() - before;
        atMost("bytes made by a new desk", made, 60000);
        atMost("bytes made by 512 hard calls", more, 200000);
        atMost("objects after 512 hard calls", room(y)[0], 1000);
        Check.end();
    }

    private static void atMost(String what, long got, long most) {
        if (got > most) {
            Check.fail(what + ": " + got + ", at most " + most);
        }
    }

    private static void warmUp() {
        hardCalls(new RootDesk());
        allocated();
    }

    private static long allocated() {
        com.sun.management.ThreadMXBean bean =
            (com.sun.management.ThreadMXBean) java.lang.management.ManagementFactory.getThreadMXBean();
        return bean.getThreadAllocatedBytes(Thread.currentThread().getId());
    }

    /** 512 calls or so: great degrees and coefficients, many places, numbers that agree far. */
    private static void hardCalls(RootDesk x) {
        for (int r = 0; r < 16; r++) {
            set(x, 997 - r, 31, -512, 7 * r - 100, 998, r - 3, -1000 + r);
            x.take(0, 0);
            x.print(0, 30);
            set(x, r - 1000, 3, 0, 0, 0, 0, 0);
            x.take(1, 0);
            x.add(2, 0, 1);
            x.multiply(3, 0, 1);
            x.print(2, 30);
            x.print(3, 30);
            x.invert(4, 3);
            x.invert(4, 4);
            x.compare(4, 3);
            x.rootsIn(2, 3);
            x.signAt(2);
            x.fraction(5, 999983, 999979 - r);
            x.multiply(5, 5, 5);
            x.root(6, 5, 2);
            x.root(6, 6, 3);
            x.print(6, 30);
        }
    }

    private static void set(RootDesk x, int c0, int c1, int c2, int c3, int c4, int c5, int c6) {
        x.coefficient(0, c0);
        x.coefficient(1, c1);
        x.coefficient(2, c2);
        x.coefficient(3, c3);
        x.coefficient(4, c4);
        x.coefficient(5, c5);
        x.coefficient(6, c6);
    }

    /** How many objects hang on x, and how many fields and elements they have. */
    private static long[] room(Object x) throws IllegalAccessException {
        Set<Object> seen = Collections.newSetFromMap(new IdentityHashMap<>());
        Deque<Object> open = new ArrayDeque<>();
        open.add(x);
        seen.add(x);
        long parts = 0;
        while (!open.isEmpty()) {
            Object o = open.remove();
            if (o.getClass().isArray()) {
                int n = Array.getLength(o);
                parts += n;
                for (int i = 0; i < n && !o.getClass().getComponentType().isPrimitive(); i++) {
                    visit(Array.get(o, i), seen, open);
                }
            } else {
                for (Field f : o.getClass().getDeclaredFields()) {
                    if (!Modifier.isStatic(f.getModifiers())) {
                        parts++;
                        f.setAccessible(true);
                        if (!f.getType().isPrimitive()) {
                            visit(f.get(o), seen, open);
                        }
                    }
                }
            }
        }
        return new long[] {seen.size(), parts};
    }

    private static void visit(Object o, Set<Object> seen, Deque<Object> open) {
        if (o != null && seen.add(o)) {
            open.add(o);
        }
    }
}
