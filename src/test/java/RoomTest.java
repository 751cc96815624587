import java.lang.management.ManagementFactory;
import java.lang.reflect.Array;
import java.lang.reflect.Field;
import java.lang.reflect.Modifier;
import java.util.ArrayDeque;
import java.util.IdentityHashMap;
import java.util.Map;

/** All calls of a run live in one room: an object is small, and no call makes anything. */
public final class RoomTest {
    private static final int MOST_OBJECTS = 300;
    private static final int MOST_ELEMENTS = 12000;
    private static final int CALLS = 2000;

    private int objects = 0;
    private long elements = 0;

    public static void main(String[] args) throws IllegalAccessException {
        RoomTest test = new RoomTest();
        test.measure(new FogWatch());
        long made = madeByCalls();
        System.out.println("RoomTest: an object is " + test.objects + " objects and arrays of " + test.elements
            + " fields and elements; " + CALLS + " rounds of calls made " + made + " bytes");
        if (test.objects > MOST_OBJECTS || test.elements > MOST_ELEMENTS || made > CALLS) {
            System.exit(1);
        }
    }

    private void measure(FogWatch x) throws IllegalAccessException {
        Map<Object, Boolean> seen = new IdentityHashMap<>();
        ArrayDeque<Object> open = new ArrayDeque<>();
        open.add(x);
        seen.put(x, true);
        while (!open.isEmpty()) {
            Object o = open.remove();
            objects++;
            if (o.getClass().isArray()) {
                elements += Array.getLength(o);
                for (int i = 0; i < Array.getLength(o) && o instanceof Object[]; i++) {
                    enter(Array.get(o, i), seen, open);
                }
                continue;
            }
            for (Field f : o.getClass().getDeclaredFields()) {
                if (Modifier.isStatic(f.getModifiers())) {
                    continue;
                }
                elements++;
                f.setAccessible(true);
                if (!f.getType().isPrimitive()) {
                    enter(f.get(o), seen, open);
                }
            }
        }
    }

    private static void enter(Object o, Map<Object, Boolean> seen, ArrayDeque<Object> open) {
        if (o != null && seen.put(o, true) == null) {
            open.add(o);
        }
    }

    private static long madeByCalls() {
        FogWatch x = Probe.in("corner 0;corner 0;corner 1;corner 0;corner 0;corner 2;corner 0;corner 0;corner 0;corner 0;"
            + "way 0 0 1;way 0 1 2;way 0 2 3;way 0 3 4;way 0 4 5;way 0 5 6;way 0 6 7;way 0 7 8;way 0 8 9;way 0 9 0;"
            + "way 1 9 0;man 0;man 3;man 9;");
        com.sun.management.ThreadMXBean bean = (com.sun.management.ThreadMXBean) ManagementFactory.getThreadMXBean();
        long id = Thread.currentThread().getId();
        round(x, 0);
        round(x, 1);
        bean.getThreadAllocatedBytes(id);
        long before = bean.getThreadAllocatedBytes(id);
        for (int i = 0; i < CALLS; i++) {
            round(x, i);
        }
        return bean.getThreadAllocatedBytes(id) - before;
    }

    private static void feed(FogWatch x, int kind) {
        // "law": blown + 1; "work": blow 0;fog 3;night; "song": 0;1;0;1;
        if (kind == 0) {
            x.feed(0x626c6f77, 0x6e202b20, 0x31000000, 0, 0);
            x.law(9);
        } else if (kind == 1) {
            x.feed(0x626c6f77, 0x20303b66, 0x6f672033, 0x3b6e6967, 0x68743b00);
            x.work(19);
        } else {
            x.feed(0x303b313b, 0x303b313b, 0, 0, 0);
            x.song(8);
            x.feed(0x303b313b, 0x303b313b, 0, 0, 0);
            x.book(8);
        }
    }

    private static long round(FogWatch x, int i) {
        feed(x, i % 3);
        long all = x.reset(1023, 0) + x.row(1023, i % 90) + x.home(1023, i % 10) + x.cheap(1023) + x.goes(1023);
        all += x.apart(0, 9) + x.alike(3) + x.kinds() + x.rows(0, 5, 30) + x.ring(i % 10, 0) + x.fits() + x.now();
        all += x.look(0) + x.chance(0, 3, 12, 5, 0) + x.duel(0, 5) + x.reach(3) + x.from(0, 1) + x.still() + x.wind();
        all += x.watch(i, 5, 12, 0) + x.span(i, 2, 4, 12, 2, 3) + x.ahead(7, 1) + x.cost(1) + x.would(1, 2, 3, 4, 5, 6, 7);
        all += x.told(i % 12) + x.corner(3, 2) + x.way(3, 0) + x.man(1, i % 4) + x.fault() + x.count(2) + x.status(0);
        all += x.image() + x.undo();
        return all + x.restore();
    }
}
