import java.lang.management.ManagementFactory;

/** All calls live in one room: only a constructor makes objects, and few. */
public final class RoomTest {
    private static final com.sun.management.ThreadMXBean COUNTER =
        (com.sun.management.ThreadMXBean) ManagementFactory.getThreadMXBean();
    /** Some 40,000 bytes are 10,000 elements at most: 700 new objects fit into the room. */
    private static final long CONSTRUCTOR_BYTES = 40000;
    private static final String TEXT = "c1,80,9,9,9,9;c1,80,8,8,8,8;c1,80,7,7,7,7;c1,80,6,6,6,6;c1,80,5,5,5,5;c1,80,4,4,4,4;r0,0,9,0;h50,99,0;";

    /** The least of some tries: the machine makes objects of its own while it is warming up. */
    public static void main(String[] args) {
        long byConstructor = Long.MAX_VALUE;
        long byCalls = Long.MAX_VALUE;
        for (int k = 0; k < 20; k++) {
            long start = bytes();
            ColdHouse x = new ColdHouse();
            long made = bytes();
            useAll(x);
            long used = bytes();
            byConstructor = Math.min(byConstructor, made - start);
            byCalls = Math.min(byCalls, used - made);
        }
        Due.isTrue("the constructor makes " + byConstructor + " bytes", byConstructor <= CONSTRUCTOR_BYTES);
        Due.is("bytes made by all calls", byCalls, 0);
        Due.end();
    }

    private static long bytes() {
        return COUNTER.getCurrentThreadAllocatedBytes();
    }

    private static int useAll(ColdHouse x) {
        int sum = x.wipe();
        for (int k = 0; k < TEXT.length(); k++) {
            sum += x.write(TEXT.charAt(k));
        }
        sum += x.fault() + x.lay() + x.tell(0, 300);
        for (int k = 0; k < 10; k++) {
            sum += x.tick(1 + k) + x.lock(k % 6, 1) + x.lock(k % 6, 0) + x.ahead(60, k % 4) + x.tell(2, k);
            sum += x.machine(k % 6, 10) + x.machine(k % 6, 11) + x.machine(k % 6, 12) + x.power(k % 6, 50, 20);
            sum += x.share(63, 200 + k, 2) + x.best(200 + k, 0) + x.now(6) + x.count(k) + x.undo();
        }
        return sum + x.dip() + x.tick(60) + x.undo();
    }
}
