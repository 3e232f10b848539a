import com.sun.management.ThreadMXBean;
import java.lang.management.ManagementFactory;

/** All calls of a run live in one room: what an object makes is made in its constructor, and calls make nothing more. */
public final class RoomTest {
    private static final int MOST_BYTES_NEW = 200_000;
    private static final int MOST_BYTES_CALLS = 4_000;
    private static final String TEXT = "roads 4;word a moves 99 tires 1;word b moves 9;word c moves 9;word d moves 9;word e moves 9;"
            + "word f moves 9;word g moves 9;word h moves 50 tires 3;comer a road 0 says a b c d;comer b road 1 says e;"
            + "comer c road 2 says f;comer d road 3 says h;comer e road 0 says h g;comer f road 0 says e;comer g road 0 says d;"
            + "comer h road 1 says a;worth moved*2+waited*3-(mood-50)*7-(not(hatch>behind))*4-60 or waited>70;keeps many*7+behind%3;"
            + "whim 30;draw 5;";

    private static long bytes() {
        ThreadMXBean threads = (ThreadMXBean) ManagementFactory.getThreadMXBean();
        return threads.getCurrentThreadAllocatedBytes();
    }

    private static int use(HatchLights x, int times) {
        int sum = 0;
        for (int i = 0; i < times; i++) {
            sum += x.soonest() + x.rivals(i % 8, (i + 1) % 8) + x.reorder(60, 2) + x.fits(i) + x.ask(1, i) + x.best(i % 8, 0)
                + x.shortest(i % 8, 1) + x.honest(i % 8, 1) + x.hatch() + x.open(i % 4) + x.jam() + x.about(i % 16)
                + x.image(i % 3) + x.back(i % 3) + x.seen(i % 21, i % 8, true) + x.law(i) + x.coax(i % 8) + x.will(60, 1)
                + x.rehearse(i % 8, 1 + i % 255) + x.turn(i % 8, i % 4) + x.spends(i % 8) + x.press(60) + (x.undo() ? 1 : 0);
        }
        return sum;
    }

    public static void main(String[] args) {
        HatchLights warm = new HatchLights();
        Due.feed(warm, TEXT);
        int sum = warm.crossing() + use(warm, 22);
        long start = bytes();
        HatchLights x = new HatchLights();
        long made = bytes();
        Due.feed(x, TEXT);
        long fed = bytes();
        sum += x.crossing() + use(x, 22);
        long used = bytes();
        System.out.println("bytes of a new object: " + (made - start) + ", of 500 calls: " + (used - fed) + " (" + sum + ")");
        if (x.fault(0) != 0) {
            System.out.println("fault " + x.fault(0) + " at " + x.fault(1));
            System.exit(1);
        }
        if (made - start > MOST_BYTES_NEW || used - fed > MOST_BYTES_CALLS) {
            System.exit(1);
        }
    }
}
