import com.sun.management.ThreadMXBean;
import java.lang.management.ManagementFactory;

/** All calls of a run live in one room: what an object needs is made with it and with its RECORDS, and used again. */
public final class RoomTests {
    private static final ThreadMXBean THREADS = (ThreadMXBean) ManagementFactory.getThreadMXBean();
    private static final long SLACK = 4096;
    private static final long BYTES_OF_OBJECT = 60000;
    private static final long BYTES_OF_RECORD = 400;

    private RoomTests() {
    }

    public static void main(String[] args) {
        Due due = new Due();
        due.about("the room");
        // What the first calls of a class need of the machine is not the program's.
        use(filled(), 2);
        filled();

        long start = THREADS.getCurrentThreadAllocatedBytes();
        PairSieve x = new PairSieve();
        long ofObject = THREADS.getCurrentThreadAllocatedBytes() - start;
        due.is("an object of " + ofObject + " bytes is small", ofObject <= BYTES_OF_OBJECT + SLACK, true);

        start = THREADS.getCurrentThreadAllocatedBytes();
        for (int r = 0; r < 60; r++) {
            x.record();
        }
        long ofRecords = THREADS.getCurrentThreadAllocatedBytes() - start;
        due.is("60 records of " + ofRecords + " bytes are small", ofRecords <= 60 * BYTES_OF_RECORD + SLACK, true);

        PairSieve y = filled();
        start = THREADS.getCurrentThreadAllocatedBytes();
        use(y, 20);
        long ofCalls = THREADS.getCurrentThreadAllocatedBytes() - start;
        due.is("calls that make " + ofCalls + " bytes make nothing", ofCalls <= SLACK, true);
        due.close();
    }

    private static PairSieve filled() {
        PairSieve x = new PairSieve();
        for (int r = 0; r < 60; r++) {
            x.record();
            x.feed(r / 10, r % 7, 0x01020304, 0x05060708, 0x090A0B0C);
            x.feed(r / 5, r % 9, 0x0D0E0F10, 0x11121314, 0x15161718);
            x.end(36);
            x.text(r, 1);
        }
        return x;
    }

    private static void use(PairSieve x, int times) {
        for (int i = 0; i < times; i++) {
            x.measure(i % 6, 1, i % 6 == 0 ? 1 : 1 + i % 3);
            x.weight(8 * i, 1 + i);
            x.put(i, 7);
            x.take(i, 7);
            x.order();
            x.pairs();
            x.top(100);
            x.pair(0, 0);
            x.core(i);
            x.chain(0, i);
            x.next(0, i);
            x.why(0, 1);
            x.like(0, 1, 3);
            x.feed(1, 2, 3, 4, i);
            x.text(i, 2);
            for (int what = 0; what < 14; what++) {
                x.count(what);
                x.about(i, what);
                x.at(i, what);
                x.member(what);
                x.frequency(what);
            }
        }
    }
}
