import com.sun.management.ThreadMXBean;
import java.lang.management.ManagementFactory;
import java.lang.reflect.Array;
import java.lang.reflect.Field;
import java.lang.reflect.Modifier;
import java.util.IdentityHashMap;
import java.util.Map;

/** All calls of one run live in one room: what an object holds is little, and calls make nothing new. */
public final class RoomTest {
    private static long objects = 0;
    private static long elements = 0;

    public static void main(String[] args) throws Exception {
        SlowOrder x = new SlowOrder();
        walk(x, new IdentityHashMap<>());
        System.out.println(objects + " objects, " + elements + " fields and elements");
        Check.so("few objects", objects < 400);
        Check.so("few elements", elements < 15000);

        dearest(x, 3);
        ThreadMXBean bean = (ThreadMXBean) ManagementFactory.getThreadMXBean();
        long id = Thread.currentThread().getId();
        bean.getThreadAllocatedBytes(id);
        long before = bean.getThreadAllocatedBytes(id);
        int calls = dearest(x, 20);
        long made = bean.getThreadAllocatedBytes(id) - before;
        System.out.println(made + " bytes made by " + calls + " calls");
        // the test's own text is fed each time; the calls make nothing
        Check.so("calls make nothing", made < 400000);
        Check.finish();
    }

    private static void walk(Object o, Map<Object, Object> seen) throws Exception {
        if (o == null || seen.put(o, o) != null) {
            return;
        }
        objects++;
        Class<?> c = o.getClass();
        if (c.isArray()) {
            elements += Array.getLength(o);
            for (int i = 0; i < Array.getLength(o) && !c.getComponentType().isPrimitive(); i++) {
                walk(Array.get(o, i), seen);
            }
            return;
        }
        for (Field f : c.getDeclaredFields()) {
            if (!Modifier.isStatic(f.getModifiers())) {
                elements++;
                f.setAccessible(true);
                if (!f.getType().isPrimitive()) {
                    walk(f.get(o), seen);
                }
            }
        }
    }

    private static int dearest(SlowOrder x, int times) {
        StringBuilder s = new StringBuilder("realm towns 8 hours 99;");
        for (int t = 0; t < 7; t++) {
            s.append("road ").append(t).append(" to ").append(t + 1).append(" hours 1;");
        }
        s.append("rider pace 1 rests 0;".repeat(6));
        for (int o = 0; o < 10; o++) {
            s.append("order rider ").append(o % 6).append(" on 0 says ").append(o).append(" from 7 to 1 at ").append(o)
                .append(" via 0 7;wish ").append(o).append(" says ").append(o).append(" in 1 at 98;");
        }
        int calls = 0;
        for (int i = 0; i < times; i++) {
            Check.tape(x, s.toString());
            x.realm();
            x.image(i % 3);
            x.restore(i % 3);
            x.rests(50);
            x.sent(9, 50);
            x.ways(0, 98);
            x.best(0, 98, 2);
            x.just(0);
            x.delay(1, 0, -1, 98, 0);
            x.queen(7, 0, 0, 9, 98);
            x.years(0, 20, 100, 1, 0, 5, 98);
            x.matters(0);
            x.cross();
            x.row(0, 3, 60);
            x.agree(0, 0);
            x.sure(0, 0, 1, 0, 98);
            calls += 60;
        }
        return calls;
    }
}
