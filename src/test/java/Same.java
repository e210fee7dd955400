import java.util.function.Consumer;
import java.util.function.Supplier;

/**
 * Compares objects by all that can still be asked of them: the register's number, the vector, the
 * sum and the point answer to no call at once, only to some that come later.
 */
final class Same {
    private interface Probe {
        void ask(CutRows x, StringBuilder trace);
    }

    private Same() {
    }

    /** The call is refused, and the object answers later calls as one does that never had it. */
    static void after(String what, Supplier<CutRows> scene, Consumer<CutRows> refused) {
        as(what, () -> {
            CutRows x = scene.get();
            refused.accept(x);
            return x;
        }, scene);
    }

    static void as(String what, Supplier<CutRows> one, Supplier<CutRows> other) {
        Probe[] probes = {Same::look, Same::feedOn, Same::feedOnAnew, Same::endSum, Same::addToSum, Same::addAnew,
            Same::moveOn, Same::divideAll};
        for (int i = 0; i < probes.length; i++) {
            StringBuilder got = new StringBuilder();
            StringBuilder want = new StringBuilder();
            probes[i].ask(one.get(), got);
            probes[i].ask(other.get(), want);
            Check.due(what + ": probe " + i, got.toString(), want.toString());
        }
    }

    private static void look(CutRows x, StringBuilder trace) {
        for (int what = 0; what <= 5; what++) {
            trace.append(x.count(what)).append(' ');
        }
        trace.append(x.refuted()).append(' ').append(x.evalSatisfied()).append(" rows");
        int width = widthOf(x);
        for (int row = 0; row < x.rowCount(); row++) {
            for (int entry = 0; entry < width; entry++) {
                trace.append(' ').append(Check.number(x, row, entry));
            }
            trace.append(';');
        }
    }

    private static int widthOf(CutRows x) {
        int width = 0;
        while (x.rowCount() > 0 && width < 7) {
            try {
                x.cell(0, width, 0);
            } catch (IllegalArgumentException e) {
                break;
            }
            width++;
        }
        return width;
    }

    private static void feedOn(CutRows x, StringBuilder trace) {
        trace.append(x.limb(7)).append(' ').append(x.endCoefficient()).append(' ');
        while (x.beginNumber(1) && x.endCoefficient()) {
            trace.append('.');
        }
        trace.append(x.endConstraint()).append(' ');
        look(x, trace);
    }

    private static void feedOnAnew(CutRows x, StringBuilder trace) {
        trace.append(x.endConstraint()).append(' ');
        feedOn(x, trace);
    }

    private static void endSum(CutRows x, StringBuilder trace) {
        trace.append(x.combineEnd()).append(' ');
        look(x, trace);
    }

    private static void addToSum(CutRows x, StringBuilder trace) {
        for (int row = 0; row < x.rowCount(); row++) {
            trace.append(x.combineAdd(row)).append(' ');
        }
        endSum(x, trace);
    }

    private static void addAnew(CutRows x, StringBuilder trace) {
        trace.append(x.sealInput()).append(' ').append(x.combineStart()).append(' ');
        if (x.rowCount() > 0) {
            trace.append(x.combineAdd(0)).append(' ');
        }
        endSum(x, trace);
    }

    /** Takes back what the scenes' tight rows say of the point, a variable at a time. */
    private static void moveOn(CutRows x, StringBuilder trace) {
        for (int var = 0; var < 6; var++) {
            trace.append(x.evalPoint(var)).append(x.evalSatisfied()).append(' ');
        }
        look(x, trace);
    }

    private static void divideAll(CutRows x, StringBuilder trace) {
        for (int row = x.rowCount() - 1; row >= 0; row--) {
            trace.append(x.divideRound(row)).append(' ');
        }
        look(x, trace);
    }
}
