import com.sun.management.ThreadMXBean;
import java.lang.management.ManagementFactory;

/** All calls of a run live in one room: rows are made by the constructor alone, none by a call. */
public final class RoomTest {
    private static final int OBJECTS = 50;
    private static final long MOST_BYTES_OF_ONE = 16 * 1024;

    private static final ThreadMXBean ROOM = (ThreadMXBean) ManagementFactory.getThreadMXBean();

    public static void main(String[] args) {
        Check check = new Check("RoomTest");
        PoleBehind first = new PoleBehind();
        long answers = allCalls(first);
        bytes();
        long before = bytes();
        PoleBehind[] made = new PoleBehind[OBJECTS];
        for (int k = 0; k < OBJECTS; k++) {
            made[k] = new PoleBehind();
        }
        long behindMaking = bytes();
        for (int k = 0; k < OBJECTS; k++) {
            answers -= allCalls(made[k]);
        }
        long behindCalls = bytes();
        check.holds("an object takes " + (behindMaking - before) / OBJECTS + " bytes",
            (behindMaking - before) / OBJECTS <= MOST_BYTES_OF_ONE);
        check.due("bytes taken by calls", behindCalls - behindMaking, 0);
        check.due("the answers, that all calls be made", answers, -(OBJECTS - 1) * allCalls(new PoleBehind()));
        check.end();
    }

    private static long bytes() {
        return ROOM.getThreadAllocatedBytes(Thread.currentThread().getId());
    }

    private static final char[] TEXT = "p2g3m2c9^dg4m1g0g2c1g5".toCharArray();

    private static long allCalls(PoleBehind x) {
        long sum = 0;
        for (int k = 0; k < 4; k++) {
            sum += x.sheet(k, k % 3, 60);
        }
        for (int i = 0; i < TEXT.length; i++) {
            sum += x.put(0, i, TEXT[i]);
        }
        for (int round = 0; round < 8; round++) {
            sum += x.river(0, 0, 0, TEXT.length) + x.reading(2, 2) + x.ways(7, 6) + x.ways(3, -1);
            sum += x.surest(12, 3) + x.sure(8, 0) + x.soonest() + x.cost(2) + x.bridge(2, false) + x.pace(1);
            sum += x.plan(1, 1, 0, 9, 1) + x.dry(2, 2, 0, 3, 1) + x.odds(2, 2, 0, 3, 1);
            sum += x.kinds(1, 2, 2, 0, 3, 100) + x.muds(1, 2, 2, 0, 3, 100) + x.copy(1, 0, 1, 5, 9) + x.cell(0, 3, 0);
            sum += x.tell(2) + x.sound(2) + x.as(2, 1) + x.trace() + x.fault() + x.many(3) + x.back(1) + x.ofCell(1, 2);
            sum += x.sheet(3, 1, round) + x.lose(3) + x.river(9, 9, 9, 9) + x.put(9, 9, 9);
        }
        return sum;
    }
}
