import com.sun.management.ThreadMXBean;
import java.lang.management.ManagementFactory;

/** What a run makes is small: an object's rows are made with it, and no call makes more. */
public final class RoomTest {
    /** Some 2,700 fields and elements of four bytes, and their heads. */
    private static final long OBJECT_BYTES = 16000;
    private static final int RUNS = 20;

    private RoomTest() {
    }

    public static void main(String[] args) {
        ThreadMXBean machine = (ThreadMXBean) ManagementFactory.getThreadMXBean();
        long self = Thread.currentThread().getId();
        dearCalls(new HardBench());
        long before = machine.getThreadAllocatedBytes(self);
        HardBench[] made = new HardBench[RUNS];
        for (int i = 0; i < RUNS; i++) {
            made[i] = new HardBench();
        }
        long ofObjects = (machine.getThreadAllocatedBytes(self) - before) / RUNS;
        before = machine.getThreadAllocatedBytes(self);
        for (HardBench x : made) {
            dearCalls(x);
        }
        long ofCalls = (machine.getThreadAllocatedBytes(self) - before) / RUNS;
        Due.holds("an object takes at most " + OBJECT_BYTES + " bytes and not " + ofObjects, ofObjects <= OBJECT_BYTES);
        Due.holds("its calls take next to nothing and not " + ofCalls, ofCalls <= 1000);
        Due.end();
    }

    private static void dearCalls(HardBench x) {
        x.make(5, 8);
        for (int k = 0; k < 50; k++) {
            int function = k % 5;
            x.hardest(function, k);
            x.count(function, 9);
            x.all(function, 3);
            x.spans(function, k % 3);
            x.span(function, k % 3, k, 1);
            x.table(function, k % 5, 1 + k % 30, 1, k % 11);
            x.look(k);
            x.part(0, 2);
        }
    }
}
