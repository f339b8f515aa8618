import java.lang.management.ManagementFactory;
import java.lang.reflect.Array;
import java.lang.reflect.Field;
import java.lang.reflect.Modifier;
import java.util.IdentityHashMap;

/** A new object is small, and no call makes anything: a whole run stays far below the room it has. */
public final class RoomTest {
    private static int elements;

    public static void main(String[] args) throws Exception {
        IdentityHashMap<Object, Boolean> seen = new IdentityHashMap<>();
        count(new SwallowsAir(), seen);
        Due.due("objects of a new object are few: " + seen.size(), seen.size() < 1100, true);
        Due.due("elements of a new object are few: " + elements, elements < 14000, true);
        calls();
        calls();
        com.sun.management.ThreadMXBean threads =
                (com.sun.management.ThreadMXBean) ManagementFactory.getThreadMXBean();
        long before = threads.getThreadAllocatedBytes(Thread.currentThread().getId());
        long empty = threads.getThreadAllocatedBytes(Thread.currentThread().getId()) - before;
        SwallowsAir x = prepared();
        before = threads.getThreadAllocatedBytes(Thread.currentThread().getId());
        callsOn(x);
        long made = threads.getThreadAllocatedBytes(Thread.currentThread().getId()) - before - empty;
        Due.due("bytes made by calls: " + made, made < 4096, true);
        Due.close("RoomTest");
    }

    private static void count(Object o, IdentityHashMap<Object, Boolean> seen) throws Exception {
        if (o == null || o instanceof String || seen.put(o, true) != null) {
            return;
        }
        if (o.getClass().isArray()) {
            elements += Array.getLength(o);
            for (int i = 0; i < Array.getLength(o) && !o.getClass().getComponentType().isPrimitive(); i++) {
                count(Array.get(o, i), seen);
            }
            return;
        }
        for (Field f : o.getClass().getDeclaredFields()) {
            if (!Modifier.isStatic(f.getModifiers())) {
                elements++;
                f.setAccessible(true);
                if (!f.getType().isPrimitive()) {
                    count(f.get(o), seen);
                }
            }
        }
    }

    private static void calls() {
        callsOn(prepared());
    }

    private static SwallowsAir prepared() {
        SwallowsAir x = new SwallowsAir();
        for (int i = 0; i < 10; i++) {
            x.person(i % 8, i, 900);
            x.swallow(i, 3);
        }
        for (int i = 0; i < 8; i++) {
            x.wish(i, i + 4, i);
            x.kite(9 - i, i);
            x.point(i, 2 * i, 5, i);
        }
        return x;
    }

    private static void callsOn(SwallowsAir x) {
        x.set(5, 0, 80);
        for (int n = 0; n < 9; n++) {
            x.feed(0x6c656176, 0x65203930, 0x30207768, 0x656e206e, 0x6f742068);
            x.feed(0x6967683e, 0x3620616e, 0x6420313d, 0x313b2020, 0x20202020);
            x.text(0);
            x.feed(0x63617365, 0x20312066, 0x6f6c6c6f, 0x77732032, 0x3b202020);
            x.text(3);
            for (int r = 0; r < 10; r++) {
                x.ask(r, 1, r, 3, 30);
                x.take(r, 1, r, 57, 30);
            }
            x.goes(60, 0);
            x.days(60);
            x.undo();
            x.image(n % 2 == 0);
            x.would(0, 0, 0, 0, 1);
            x.through(0, 97, 1);
            x.wide(0);
            x.beside(1);
            x.strings(1);
            x.eaves(15);
            x.cites(2, 0);
            x.cites(2, 1);
            x.asked(1);
            x.arbiter(0);
            x.game(0);
            x.leaps(9);
            x.ball(40, 1, 1);
            x.use(0, 9);
            x.look(3);
        }
    }
}
