import java.lang.management.ManagementFactory;

/** All calls of a run live in one room: an object is small, and no call makes another. */
public final class RoomTest {
    private static final int ROOM = 400000;

    /** For what the machine itself may make now and then; a call that made objects would make far more. */
    private static final int SLACK = 4096;

    private static void callMuch(UtilityWorks x) {
        x.bring(0);
        x.breaks(0, 10);
        x.breaks(1, 9);
        x.breaks(2, 0);
        x.job(2, 0, 10, 1);
        x.storm(1, 7);
        x.order(0, 1);
        x.customer(2, 2);
        x.pass(60);
        x.keep(1);
        x.isSound();
        x.switching(1);
        x.mending(0);
        x.gain(1, 9);
        x.waterWithout(0);
        x.heatWithout(1);
        x.fire(3, 9);
        x.nextJob(0);
        x.wayIs(0, 11, 3);
        x.billNow(0);
        x.firstFree(3, 3);
    }

    public static void main(String[] args) {
        com.sun.management.ThreadMXBean threads =
                (com.sun.management.ThreadMXBean) ManagementFactory.getThreadMXBean();
        long id = Thread.currentThread().getId();
        new UtilityWorks().count(0);
        long before = threads.getThreadAllocatedBytes(id);
        UtilityWorks x = new UtilityWorks();
        long made = threads.getThreadAllocatedBytes(id) - before;
        x.keep(0);
        for (int k = 0; k < 30; k++) {
            callMuch(x);
        }
        before = threads.getThreadAllocatedBytes(id);
        for (int k = 0; k < 30; k++) {
            callMuch(x);
        }
        long later = threads.getThreadAllocatedBytes(id) - before;
        boolean fits = made < ROOM && later <= SLACK;
        System.out.println("an object takes " + made + " bytes, its calls " + later + (fits ? "" : ": too much"));
        if (!fits) {
            System.exit(1);
        }
    }
}
