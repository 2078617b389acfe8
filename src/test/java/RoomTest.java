import java.lang.management.ManagementFactory;

/** All calls of a run live in one room: the dearest calls, 512 of each, must make next to nothing, and end soon. */
public final class RoomTest {
    /** Far below 7.3 million fields and elements. */
    private static final long MOST_BYTES_OF_A_RUN = 200000, MOST_BYTES_OF_AN_OBJECT = 16000;
    private static final com.sun.management.ThreadMXBean THREADS =
        (com.sun.management.ThreadMXBean) ManagementFactory.getThreadMXBean();
    private static final Check check = new Check("RoomTest");

    public static void main(String[] args) {
        run(false);
        long begun = System.nanoTime();
        run(true);
        check.holds("the dearest calls take too long", System.nanoTime() - begun < 60_000_000_000L);
        check.end();
    }

    private static void run(boolean isMeasured) {
        long bytes = allocated();
        WireOfLand x = new WireOfLand();
        long made = allocated();
        fill(x);
        int sum = 0;
        for (int i = 0; i < 512; i++) {
            sum += x.beside(i % 13 - 1, 300) + x.soonest(0, 7, 99, 2, i % 1440) + x.first(0, 0) + x.next(i % 24);
            x.load(2, 23, i);
            x.door(i % 21, 20, 3);
            sum += x.fewest(0) + x.round(0) + x.blamed() + x.likely(-1L >>> 1 & 0x7979797979797979L, 8, 15) + x.fault();
        }
        for (int i = 0; i < 75; i++) {
            sum += x.minutes(120);
        }
        if (isMeasured) {
            check.holds("a new object takes " + (made - bytes), made - bytes < MOST_BYTES_OF_AN_OBJECT);
            check.holds("all calls take " + (allocated() - made), allocated() - made < MOST_BYTES_OF_A_RUN);
            check.holds("the minutes went by", x.count(0) == 9000 && sum != 0);
        }
    }

    private static void fill(WireOfLand x) {
        for (int b = 1; b < 8; b++) {
            x.wire(b - 1, b, 1, false);
        }
        for (int b = 2; b < 7; b++) {
            x.wire(b - 2, b, 1, true);
        }
        for (int i = 0; i < 24; i++) {
            x.message(i % 8, (i + 3) % 8, 90 + i % 9, i % 5);
        }
        for (int i = 0; i < 12; i++) {
            x.storm(i, 50 * i, 50 * i + 30);
            x.let(i, 70 * i + 300, 70 * i + 320);
            x.row(7);
            x.tape(i, 6, 1);
            x.clerk(i, i % 6, i % 8);
        }
        for (int i = 0; i < 16; i++) {
            x.word(i, 0x7979797979797979L + i % 2, 8);
        }
        for (int i = 0; i < 6; i++) {
            x.write(0x3120746361656cL, 7);
            x.force();
            x.write(0x31206b636162L, 6);
            x.force();
        }
        for (int i = 0; i < 20; i++) {
            x.write(0x2020202020202020L, 8);
        }
        for (int i = 0; i < 72; i++) {
            x.load(i / 24, i % 24, 100 + i);
        }
        for (int i = 0; i < 5; i++) {
            x.door(20 * (i % 2), 20 - i, 0);
        }
    }

    private static long allocated() {
        return THREADS.getThreadAllocatedBytes(Thread.currentThread().getId());
    }
}
