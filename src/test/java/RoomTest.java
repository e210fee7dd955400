import java.lang.management.ManagementFactory;

/** All calls of a run live in one room, so a call may not make objects anew. */
public final class RoomTest {
    private static final int CALLS = 512;
    private static final int FEW_BYTES = 20_000;

    public static void main(String[] args) {
        com.sun.management.ThreadMXBean threads = (com.sun.management.ThreadMXBean) ManagementFactory.getThreadMXBean();
        long self = Thread.currentThread().getId();
        // Loading classes takes room of its own, so the first run is not measured.
        run(new CutRows(2, 60, 4000));
        CutRows x = new CutRows(2, 60, 4000);
        long before = threads.getThreadAllocatedBytes(self);
        int calls = run(x);
        long taken = threads.getThreadAllocatedBytes(self) - before;
        Check.due("all calls are used", calls >= CALLS, true);
        Check.due("bytes taken by the calls, " + taken + ", are few", taken < FEW_BYTES, true);
        Check.due("rows were made", x.rowCount() > 10, true);
        Check.end();
    }

    private static int run(CutRows x) {
        int calls = 0;
        for (int number = 0; number < 3; number++) {
            calls += feed(x, 20, 1 + number);
            x.endCoefficient();
        }
        x.endConstraint();
        x.sealInput();
        x.combineStart();
        calls += 6 + feed(x, 20, 5);
        x.combineAdd(0);
        x.combineEnd();
        while (calls < CALLS) {
            x.combineStart();
            x.combineAdd(0);
            x.combineEnd();
            x.divideRound(1);
            x.evalPoint(1);
            x.evalSatisfied();
            x.evalStart();
            x.cell(1, 0, 3);
            x.count(0);
            x.refuted();
            calls += 10;
        }
        return calls;
    }

    private static int feed(CutRows x, int limbs, int seed) {
        x.beginNumber(1);
        for (int i = 0; i < limbs; i++) {
            x.limb((seed * 0x3779B97 + i * 0x5851F42D) & Integer.MAX_VALUE);
        }
        return limbs + 1;
    }
}
