import java.lang.management.ManagementFactory;

/** All calls of a run live in one room, so a call may not make objects anew. */
public final class RoomTest {
    private static final int PROMISED = 512;
    private static final int FEW_BYTES = 20_000;
    private static final int LIMBS = 20;
    private static final int CALLS_OF_A_ROUND = 10;

    public static void main(String[] args) {
        com.sun.management.ThreadMXBean threads = (com.sun.management.ThreadMXBean) ManagementFactory.getThreadMXBean();
        long self = Thread.currentThread().getId();
        // Loading classes takes room of its own, so the first run is not measured.
        run(new CutRows(2, 60, 4000));
        CutRows x = new CutRows(2, 60, 4000);
        long before = threads.getThreadAllocatedBytes(self);
        int calls = run(x);
        long taken = threads.getThreadAllocatedBytes(self) - before;
        Check.due("the promised calls allow another round", calls + CALLS_OF_A_ROUND < PROMISED, false);
        Check.due("bytes taken by the calls, " + taken + ", are few", taken < FEW_BYTES, true);
        Check.due("rows were made", x.rowCount() > 10, true);
        Check.end();
    }

    /** Answers how many calls it made; at least one is left to look at the object. */
    private static int run(CutRows x) {
        int calls = begin(x);
        while (calls + CALLS_OF_A_ROUND < PROMISED) {
            calls += round(x);
        }
        return calls;
    }

    private static int begin(CutRows x) {
        int calls = 0;
        for (int number = 0; number < 3; number++) {
            calls += feed(x, 1 + number);
            x.endCoefficient();
            calls++;
        }
        x.endConstraint();
        x.sealInput();
        x.combineStart();
        calls += feed(x, 5);
        x.combineAdd(0);
        x.combineEnd();
        return calls + 5;
    }

    private static int round(CutRows x) {
        x.combineStart();
        x.combineAdd(0);
        x.combineEnd();
        x.divideRound(1);
        x.evalPoint(1);
        x.evalSatisfied();
        x.evalStart();
        x.cell(1, 0, 3);
        x.count(0);
        x.refuted();
        return CALLS_OF_A_ROUND;
    }

    private static int feed(CutRows x, int seed) {
        x.beginNumber(1);
        for (int i = 0; i < LIMBS; i++) {
            x.limb((seed * 0x3779B97 + i * 0x5851F42D) & Integer.MAX_VALUE);
        }
        return 1 + LIMBS;
    }
}
