import java.lang.management.ManagementFactory;
import java.lang.reflect.Array;
import java.lang.reflect.Field;
import java.lang.reflect.Modifier;
import java.util.IdentityHashMap;
import java.util.Map;

/** A new object takes little of the room that all calls share, and its calls take none. */
public final class RoomTest {
    private static final int OBJECTS_MOST = 500, CELLS_MOST = 8000;
    private static final long BYTES_MOST = 4096;

    private static final Map<Object, Object> seen = new IdentityHashMap<>();
    private static int cells = 0;

    private static void walk(Object o) throws IllegalAccessException {
        if (o == null || seen.put(o, o) != null) return;
        if (o.getClass().isArray()) {
            cells += Array.getLength(o);
            if (o instanceof Object[] all) for (Object one : all) walk(one);
            return;
        }
        for (Field f : o.getClass().getDeclaredFields()) {
            if (Modifier.isStatic(f.getModifiers())) continue;
            cells++;
            f.setAccessible(true);
            if (!f.getType().isPrimitive()) walk(f.get(o));
        }
    }

    private static int callAll(GladGlasses x, String text) {
        int sum = 0;
        for (int i = 0; i < text.length(); i++) sum += x.feed(text.charAt(i));
        sum += x.coast() + x.fault();
        for (int i = 0; i < 16; i++) sum += x.told(i);
        sum += x.weather(60) + x.glass(6, 2) + x.boat(4, 4) + x.day(30) + x.drift(30) + x.logged(3, 1) + x.drink(0) + x.keepFrom(1);
        sum += x.glad(0, 60) + x.weigh(1, 1) + x.hold(0, true) + x.find(0) + x.undo(3) + x.tells(60) + x.catches(1, 60) + x.loses(60);
        sum += x.bestLimit(1, 1) + x.error(-1) + x.error(3) + x.truest(1) + x.bestWeights(-1) + x.steps(7) + x.allTrue(127, 2);
        sum += x.differ(0) + x.fair(9, 12) + x.falseOnes() + x.holds(5) + x.homeBy(60, 3) + x.tap(0, 5) + x.could() + x.tapNext();
        return sum + x.write(0, 3) + x.judge() + x.tear() + x.seed(4) + x.keep(0) + x.goBack(0);
    }

    private static long taken() {
        return ((com.sun.management.ThreadMXBean) ManagementFactory.getThreadMXBean()).getThreadAllocatedBytes(Thread.currentThread().getId());
    }

    public static void main(String[] args) throws IllegalAccessException {
        GladGlasses x = new GladGlasses();
        walk(x);
        boolean small = seen.size() <= OBJECTS_MOST && cells <= CELLS_MOST;
        System.out.println("a new object: " + seen.size() + " objects and arrays, " + cells + " fields and elements");
        String text = "w9,0,3,8,2,5;g1 3;g9 7;g4 2;g6 9;g0 1;g10 5;g5 4;b4 3;b6 1;b2 8;b0 0;b9 9;d2;";
        callAll(x, text);
        taken();
        long before = taken();
        for (int i = 0; i < 100; i++) callAll(x, text);
        long bytes = taken() - before;
        System.out.println("100 rounds of all calls: " + bytes + " bytes");
        if (!small || bytes > BYTES_MOST) {
            System.out.println("that is too much");
            System.exit(1);
        }
    }
}
