import java.lang.management.ManagementFactory;
import java.util.Random;

/** All calls of one run live in one room: calls make no objects. No call throws, for any arguments, however many. */
public final class RoomTest {
    private static final Check CHECK = new Check();
    private static final int[] NUMBERS = {0, 1, 2, 3, 4, 5, 6, 7, 8, 9, 10, 24, 25, 48, 99, 100, -1, -2, -9, 255, 256,
        Integer.MAX_VALUE, Integer.MIN_VALUE};
    private static final long[] ROWS = {0, 1, 22, 76543210, 12345, 7777, 99999999, 100201701, 700710720730L, 111113115117L,
        999999999999L, 1000000000000L, -1, Long.MAX_VALUE, Long.MIN_VALUE};
    private static final int CALLS = 300000;
    /** What the machine itself may make beside the calls. */
    private static final long SPARE_BYTES = 65536;

    private final Random random = new Random(1);
    private final BroadNib nib = new BroadNib();

    public static void main(String[] args) {
        new RoomTest().go();
        CHECK.end();
    }

    private void go() {
        CHECK.due("four pens", tellDesk(), 4);
        for (int i = 0; i < 2000; i++) {
            call(i % 29);
        }
        long before = allocated();
        for (int i = 0; i < CALLS; i++) {
            call(random.nextInt(29));
        }
        long made = allocated() - before;
        CHECK.due("bytes made by " + CALLS + " calls: " + made, made <= SPARE_BYTES);
        before = allocated();
        BroadNib other = new BroadNib();
        made = allocated() - before;
        CHECK.due("bytes made by a new object: " + made, made <= 16384);
        CHECK.due("it is new", other.count(0), 0);
    }

    private static long allocated() {
        return ((com.sun.management.ThreadMXBean) ManagementFactory.getThreadMXBean()).getCurrentThreadAllocatedBytes();
    }

    private int tellDesk() {
        nib.wipe();
        Check.write(nib, "NP220069P221608P222439P003039S223S114S331");
        return nib.desk();
    }

    private int number() {
        return random.nextInt(3) == 0 ? NUMBERS[random.nextInt(NUMBERS.length)] : random.nextInt(4);
    }

    private long row() {
        return ROWS[random.nextInt(ROWS.length)];
    }

    private long call(int kind) {
        switch (kind) {
            case 0: return nib.write("NPS012345".charAt(random.nextInt(9)));
            case 1: return random.nextInt(50) == 0 ? tellDesk() : nib.write(number());
            case 2: return nib.fault();
            case 3: return nib.desk();
            case 4: return nib.word(number() + 4, row());
            case 5: return nib.pen(number(), number());
            case 6: return nib.dot(number());
            case 7: return nib.thick(number(), number());
            case 8: return nib.step(number(), number() + random.nextInt(5));
            case 9: return nib.put(number());
            case 10: return nib.dip(number());
            case 11: return nib.turn(number());
            case 12: return nib.blot(number());
            case 13: return nib.undo();
            case 14: return nib.behind(number(), number(), number());
            case 15: return nib.least(number(), number(), number());
            case 16: return nib.rings(number(), number(), number());
            case 17: return nib.judge(number(), row());
            case 18: return nib.see(number(), number());
            case 19: return nib.unsee();
            case 20: return nib.nibs(number());
            case 21: return nib.share(number(), random.nextBoolean());
            case 22: return nib.rests(number(), number(), number());
            case 23: return nib.skipped(number(), number(), number(), random.nextBoolean());
            case 24: return nib.seed(row());
            case 25: return nib.years(number());
            case 26: return nib.keep(number());
            case 27: return nib.again(number());
            default: return nib.count(number());
        }
    }
}
