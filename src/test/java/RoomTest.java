import com.sun.management.ThreadMXBean;
import java.lang.management.ManagementFactory;

/** What the dearest runs of 512 calls make, in bytes: far below 600,000 objects and 7.3 million elements. */
public final class RoomTest {
    private static final long LIMIT = 3_000_000;

    public static void main(String[] args) {
        // each once before it is counted: the machine's own classes are loaded then
        exact();
        samples();
        loads();
        grids();
        measure("exact questions", RoomTest::exact);
        measure("samples", RoomTest::samples);
        measure("loads", RoomTest::loads);
        measure("grids of 64 sites", RoomTest::grids);
        Check.end();
    }

    private static void measure(String what, Runnable run) {
        ThreadMXBean bean = (ThreadMXBean) ManagementFactory.getThreadMXBean();
        long id = Thread.currentThread().getId();
        bean.getThreadAllocatedBytes(id);
        long before = bean.getThreadAllocatedBytes(id);
        run.run();
        long made = bean.getThreadAllocatedBytes(id) - before;
        System.out.println(what + ": " + made + " bytes");
        Check.same(what + " stay below the limit", made < LIMIT, true);
    }

    private static void exact() {
        IsingLab x = new IsingLab();
        for (int i = 0; i < 64; i++) {
            x.setField(i % 7 - 3);
            x.barrier(0, 65535);
            x.printTable(2, 30);
            x.correlation(0, 5, 1, 2);
            x.unbalanced();
            x.saveState();
            x.restoreState();
            x.minima();
        }
    }

    private static void samples() {
        IsingLab x = new IsingLab();
        for (int i = 0; i < 128; i++) {
            if (i < 100) {
                x.sampleSweeps(100);
            }
            x.saveState();
            x.visited();
            x.restoreState();
        }
    }

    private static void loads() {
        IsingLab x = new IsingLab();
        for (int i = 0; i < 128; i++) {
            x.appendInput(0x73697a65, 0x20342034, 0x3b626f6e, 0x64203020, 0x30207269);
            x.appendInput(0x67687420, 0x2d323b65, 0x3b202020, 0x20202020, 0x20202020);
            x.truncateInput(27);
            x.loadLab();
        }
    }

    private static void grids() {
        IsingLab x = Check.lab("size 8 8;");
        for (int i = 0; i < 100; i++) {
            x.cluster(0);
            x.allClusters();
            x.domains();
            x.printGrid();
            x.descentEnd(0x123456789abcdefL * i);
        }
    }
}
