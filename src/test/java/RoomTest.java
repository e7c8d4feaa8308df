import java.lang.management.ManagementFactory;

/** All calls of a run live in one room: an object is small, and its calls make nothing new. */
public final class RoomTest {
    private static final Check CHECK = new Check();
    // 512 objects of this size, with 8 bytes an element, are a quarter of the room's 7.3 million elements.
    private static final long MOST_BYTES_AN_OBJECT = 30_000;
    private static final int ROUNDS = 200;

    public static void main(String[] args) {
        com.sun.management.ThreadMXBean threads = (com.sun.management.ThreadMXBean) ManagementFactory.getThreadMXBean();
        CureTown x = new CureTown();
        calls(x);
        long start = threads.getCurrentThreadAllocatedBytes();
        CureTown[] towns = new CureTown[100];
        for (int i = 0; i < towns.length; i++) {
            towns[i] = new CureTown();
        }
        long made = threads.getCurrentThreadAllocatedBytes();
        long sum = 0;
        for (int i = 0; i < ROUNDS; i++) {
            sum += calls(towns[i % towns.length]);
        }
        long called = threads.getCurrentThreadAllocatedBytes();
        System.out.println((made - start) / towns.length + " bytes an object, " + (called - made) + " bytes by calls, sum " + sum);
        CHECK.due("an object is small", (made - start) / towns.length <= MOST_BYTES_AN_OBJECT, true);
        // Not one byte a call: the rest is room for what the machine itself may count.
        CHECK.due("calls make nothing", called - made < 20L * ROUNDS, true);
        CHECK.finish();
    }

    private static long calls(CureTown x) {
        // "cure a: glass 0 bath 0 2 rest 1; " and blanks
        x.feed(0x63757265, 0x20613a20, 0x676c6173, 0x73203020, 0x62617468);
        x.feed(0x20302032, 0x20726573, 0x7420313b, 0x20202020, 0x20202020);
        long sum = x.load() + x.fault(0);
        x.spring(0, 1, 0, 48, 1);
        x.bath(0, 0, true);
        for (int g = 0; g < 6; g++) {
            sum += x.guest(g % 4, 0, x.look(0), 100, 50);
        }
        x.keep(true);
        sum += x.best(x.look(0), 0) + x.plan(x.look(0), 0, 10) + x.taken(x.look(0), 0, 0) + x.next();
        return sum + x.sell(3) + x.look(4) + x.bottles(0, 0) + x.water(0, 0) + x.bill(0, 0);
    }
}
