import com.sun.management.ThreadMXBean;
import java.lang.management.ManagementFactory;

/** All calls of a run live in one room: an object is small, and no call makes anything but an exception. */
public final class RoomTest {
    private static final ThreadMXBean ROOM = (ThreadMXBean) ManagementFactory.getThreadMXBean();
    private static final int CELLS = 4 * 7 * 600;
    private static final int BYTES_OF_CELL = 4;
    // Heads of objects and arrays, and their own fields.
    private static final int BESIDE = 4000;
    // The Java machine itself makes something now and then; the least of several readings is the program's own.
    private static final int READINGS = 20;

    private static long answers;

    public static void main(String[] args) {
        long ofObject = Long.MAX_VALUE;
        long ofCalls = Long.MAX_VALUE;
        for (int i = 0; i < READINGS; i++) {
            long start = bytes();
            QueueMiddles x = new QueueMiddles();
            long made = bytes();
            allCalls(x);
            ofCalls = Math.min(ofCalls, bytes() - made);
            ofObject = Math.min(ofObject, made - start);
            Checks.due("the calls came through", 600, () -> x.count(3));
        }
        long object = ofObject;
        long calls = ofCalls;
        Checks.due("an object takes more than it should", false,
                () -> object > (long) CELLS * BYTES_OF_CELL + BESIDE);
        Checks.due("bytes made by 504 calls", 0L, () -> calls);
        Checks.due("the calls answered", true, () -> answers != 0);
        Checks.finish();
    }

    private static long bytes() {
        return ROOM.getCurrentThreadAllocatedBytes();
    }

    /** 12 rounds of 42 calls, the dearest ones among them, and none that throws. */
    private static void allCalls(QueueMiddles x) {
        for (int round = 0; round < 12; round++) {
            for (int c = 0; c < 4; c++) {
                answers += x.begin(c, 5 + round);
            }
            for (int i = 0; i < 5; i++) {
                answers += x.showRow(0, 9999 - i, 3333, 100);
            }
            answers += x.showRow(1, -9999, 1, 99) + x.show(1, round);
            answers += x.pour(0, 2) + x.thinOut(2) + x.pour(1, 2) + x.pour(2, 3) + x.thinOut(3);
            answers += x.count(3) + x.bound(3) + x.allowance(3) + x.marks(3) + x.widest(3);
            answers += x.value(3, 1) + x.lowestRank(3, 1) + x.highestRank(3, 1);
            answers += x.middle(3) + x.middleByHeaps(3) + (x.part(3) > 0 ? 1 : 0);
            for (int share = 0; share < 1000; share += 333) {
                answers += x.ask(3, share) + x.off(3, share) + x.reallyOff(3, share);
            }
            answers += x.atLeastUpTo(3, round) + x.atMostUpTo(3, round) + x.reallyUpTo(3, round);
        }
    }
}
