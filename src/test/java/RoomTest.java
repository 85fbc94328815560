import java.lang.management.ManagementFactory;
import java.lang.reflect.Array;
import java.lang.reflect.Field;
import java.lang.reflect.Modifier;
import java.util.IdentityHashMap;
import java.util.Map;

/**
 * All calls of a run live in one room: an object is so small that each of 512 calls could make one, and no call makes
 * another, but keep, the first time for each image.
 */
public final class RoomTest {
    private static final int ROOM = 400000;
    private static final int CALLS = 512;
    private static final long OBJECTS = 600000;
    private static final long ELEMENTS = 7300000;

    /** For what the machine itself may make now and then; a call that made objects would make far more. */
    private static final int SLACK = 4096;

    /** Counts the objects and arrays that an object holds, and their fields and elements. */
    private static long[] holds(Object root) throws IllegalAccessException {
        Map<Object, Object> seen = new IdentityHashMap<>();
        long[] sums = new long[2];
        count(root, seen, sums);
        return sums;
    }

    private static void count(Object x, Map<Object, Object> seen, long[] sums) throws IllegalAccessException {
        if (x == null || seen.put(x, x) != null) {
            return;
        }
        sums[0]++;
        if (x.getClass().isArray()) {
            int length = Array.getLength(x);
            sums[1] += length;
            for (int k = 0; k < length && !x.getClass().getComponentType().isPrimitive(); k++) {
                count(Array.get(x, k), seen, sums);
            }
            return;
        }
        for (Field f : x.getClass().getDeclaredFields()) {
            if (!Modifier.isStatic(f.getModifiers())) {
                sums[1]++;
                f.setAccessible(true);
                if (!f.getType().isPrimitive()) {
                    count(f.get(x), seen, sums);
                }
            }
        }
    }

    private static boolean isSmall() throws IllegalAccessException {
        UtilityWorks x = new UtilityWorks();
        long[] first = holds(x);
        x.keep(0);
        x.keep(1);
        x.keep(0);
        long[] then = holds(x);
        System.out.println("an object holds " + first[0] + " objects with " + first[1] + " fields and elements, with"
                + " both images " + then[0] + " with " + then[1]);
        return first[0] * CALLS <= OBJECTS && first[1] * CALLS <= ELEMENTS && then[0] <= 3 * first[0]
                && then[1] <= 3 * first[1];
    }

    private static void callMuch(UtilityWorks x) {
        x.bring(0);
        x.breaks(0, 10);
        x.breaks(1, 9);
        x.breaks(2, 0);
        x.job(2, 0, 10, 1);
        x.storm(1, 7);
        x.order(0, 1);
        x.customer(2, 2);
        x.pass(60);
        x.keep(1);
        x.isSound();
        x.switching(1);
        x.mending(0);
        x.gain(1, 9);
        x.waterWithout(0);
        x.heatWithout(1);
        x.fire(3, 9);
        x.nextJob(0);
        x.wayIs(0, 11, 3);
        x.billNow(0);
        x.firstFree(3, 3);
    }

    public static void main(String[] args) throws IllegalAccessException {
        com.sun.management.ThreadMXBean threads =
                (com.sun.management.ThreadMXBean) ManagementFactory.getThreadMXBean();
        long id = Thread.currentThread().getId();
        new UtilityWorks().count(0);
        long before = threads.getThreadAllocatedBytes(id);
        UtilityWorks x = new UtilityWorks();
        long made = threads.getThreadAllocatedBytes(id) - before;
        x.keep(0);
        for (int k = 0; k < 30; k++) {
            callMuch(x);
        }
        before = threads.getThreadAllocatedBytes(id);
        for (int k = 0; k < 30; k++) {
            callMuch(x);
        }
        long later = threads.getThreadAllocatedBytes(id) - before;
        boolean fits = made < ROOM && later <= SLACK && isSmall();
        System.out.println("an object takes " + made + " bytes, its calls " + later + (fits ? "" : ": too much"));
        if (!fits) {
            System.exit(1);
        }
    }
}
