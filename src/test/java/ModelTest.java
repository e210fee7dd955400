import java.math.BigInteger;

/**
 * Runs of calls drawn by a fixed rule, each answer and the state after it compared with the model.
 * With the looks at the state an object has more calls here than the 512 that are promised; this
 * class goes on to answer as before, which lets a run be looked at more closely.
 */
public final class ModelTest {
    private static final int RUNS = 3000;
    private static final int CALLS = 512;
    private static final int[] EDGE_LIMBS = {0, 1, 2, 1 << 30, (1 << 30) - 1, Integer.MAX_VALUE, Integer.MAX_VALUE - 1};

    private final Draw draw;
    private final CutRows x;
    private final Model model;
    private final int kind;
    private final String name;
    private int calls = 0;

    private ModelTest(int run) {
        draw = new Draw(run);
        name = "run " + run;
        kind = draw.below(4);
        int vars = 1 + draw.below(6);
        int rows = draw.below(3) == 0 ? 1 + draw.below(12) : 60;
        int cells = draw.below(3) == 0 ? 1 + draw.below(400) : 4000;
        if (draw.below(20) == 0) {
            vars = draw.any();
            rows = draw.any();
            cells = draw.any();
        }
        x = new CutRows(vars, rows, cells);
        model = new Model(vars, rows, cells);
    }

    public static void main(String[] args) {
        int[] reached = new int[9];
        int refuted = 0;
        int longest = 0;
        for (int run = 0; run < RUNS; run++) {
            ModelTest test = new ModelTest(run);
            test.go(reached);
            refuted += test.x.refuted() ? 1 : 0;
            longest += test.hasLongest() ? 1 : 0;
        }
        for (int code : new int[] {2, 3, 4, 5, 6, 7, 8}) {
            Check.due("some call answered " + -code, reached[code] > 0, true);
        }
        Check.due("some run was refuted", refuted > 0, true);
        Check.due("some run came to coefficients of 48 limbs", longest > 0, true);
        Check.end();
    }

    private void go(int[] reached) {
        int inputs = draw.below(6);
        for (int i = 0; i < inputs; i++) {
            feedRow();
        }
        if (draw.below(10) != 0) {
            Check.due(name + ": sealInput", x.sealInput(), model.sealInput());
            calls++;
        }
        while (calls < CALLS) {
            int before = x.rowCount();
            int code = step();
            if (code < 0) {
                reached[-code]++;
            }
            compareState();
            for (int row = before; row < x.rowCount(); row++) {
                compareRow(row);
            }
        }
        for (int row = 0; row < x.rowCount(); row++) {
            compareRow(row);
        }
    }

    private boolean hasLongest() {
        for (BigInteger[] row : model.rows) {
            if (Model.limbsOf(row[0]) == 48) {
                return true;
            }
        }
        return false;
    }

    private void feedRow() {
        BigInteger common = draw.below(2) == 0 ? drawNumber(6) : BigInteger.ONE;
        for (int i = 0; i <= model.vars; i++) {
            BigInteger number = drawNumber(common.bitLength() > 1 ? 14 : 20);
            feed(i < model.vars ? number.multiply(common) : number);
            Check.due(name + ": endCoefficient", x.endCoefficient(), model.endCoefficient());
            calls++;
        }
        Check.due(name + ": endConstraint", x.endConstraint(), model.endConstraint());
        calls++;
    }

    private void feed(BigInteger number) {
        int sign = number.signum();
        Check.due(name + ": beginNumber", x.beginNumber(sign), model.beginNumber(sign));
        calls++;
        BigInteger rest = number.abs();
        while (rest.signum() != 0) {
            limb(rest.intValue() & Integer.MAX_VALUE);
            rest = rest.shiftRight(31);
        }
    }

    private void limb(int w) {
        Check.due(name + ": limb", x.limb(w), model.limb(w));
        calls++;
    }

    private BigInteger drawNumber(int most) {
        if (draw.below(8) == 0) {
            return BigInteger.ZERO;
        }
        int limbs = kind < 2 ? 1 : 1 + draw.below(most);
        BigInteger number = BigInteger.ZERO;
        for (int i = 0; i < limbs; i++) {
            number = number.shiftLeft(31).add(BigInteger.valueOf(drawLimb()));
        }
        return draw.below(2) == 0 ? number : number.negate();
    }

    private int drawLimb() {
        if (kind == 0) {
            return draw.below(5);
        }
        if (kind == 2 || draw.below(4) == 0) {
            return EDGE_LIMBS[draw.below(EDGE_LIMBS.length)];
        }
        return draw.any() & Integer.MAX_VALUE;
    }

    private int drawRow() {
        if (draw.below(20) == 0) {
            return draw.below(2) == 0 ? draw.any() : x.rowCount();
        }
        return draw.below(x.rowCount() + 1) - (draw.below(4) == 0 ? 1 : 0);
    }

    private int step() {
        switch (draw.below(16)) {
            case 0:
                return stray();
            case 1:
            case 2:
                Check.due(name + ": combineStart", x.combineStart(), model.combineStart());
                calls++;
                return 0;
            case 3:
                return answered("combineEnd", x.combineEnd(), model.combineEnd());
            case 4:
            case 5:
                int row = drawRow();
                return answered("divideRound " + row, x.divideRound(row), model.divideRound(row));
            case 6:
                return lookAtPoint();
            case 7:
                return repeatAdd();
            default:
                return addOnce();
        }
    }

    private int answered(String what, int got, int want) {
        Check.due(name + ": " + what, got, want);
        calls++;
        return got;
    }

    private int stray() {
        int what = draw.below(8);
        if (what == 0) {
            feedRow();
            return 0;
        }
        calls++;
        switch (what) {
            case 1:
                int sign = draw.below(2) == 0 ? draw.any() : draw.below(5) - 2;
                Check.due(name + ": beginNumber " + sign, x.beginNumber(sign), model.beginNumber(sign));
                return 0;
            case 2:
                int w = draw.any();
                Check.due(name + ": limb " + w, x.limb(w), model.limb(w));
                return 0;
            case 3:
                Check.due(name + ": endCoefficient", x.endCoefficient(), model.endCoefficient());
                return 0;
            case 4:
                return answered("endConstraint", x.endConstraint(), model.endConstraint());
            case 5:
                Check.due(name + ": sealInput", x.sealInput(), model.sealInput());
                return 0;
            case 6:
                Check.due(name + ": evalStart", x.evalStart(), model.evalStart());
                return 0;
            default:
                int var = draw.below(8) - 1;
                Check.due(name + ": evalPoint " + var, x.evalPoint(var), model.evalPoint(var));
                return 0;
        }
    }

    private int lookAtPoint() {
        int var = draw.below(model.vars);
        feed(drawNumber(20));
        Check.due(name + ": evalPoint", x.evalPoint(var), model.evalPoint(var));
        calls++;
        return answered("evalSatisfied", x.evalSatisfied(), model.evalSatisfied());
    }

    private int addOnce() {
        int row = drawRow();
        BigInteger times = draw.below(3) == 0 ? drawUpToTheTop(row) : drawNumber(20);
        feed(draw.below(5) == 0 ? times : times.abs());
        return answered("combineAdd " + row, x.combineAdd(row), model.combineAdd(row));
    }

    /** A number that makes the row's longest number about as long as a sum's may be. */
    private BigInteger drawUpToTheTop(int row) {
        int longest = 0;
        for (int entry = 0; row >= 0 && row < x.rowCount() && entry <= model.vars; entry++) {
            longest = Math.max(longest, Model.limbsOf(model.rows.get(row)[entry]));
        }
        int limbs = Math.min(20, Math.max(1, 48 - longest + draw.below(2)));
        return BigInteger.valueOf(drawLimb()).shiftLeft(31 * (limbs - 1)).add(drawNumber(limbs).abs());
    }

    private int repeatAdd() {
        int row = drawRow();
        return answered("combineAdd " + row, x.combineAdd(row), model.combineAdd(row));
    }

    private void compareState() {
        for (int what = 0; what <= 5; what++) {
            Check.due(name + ", call " + calls + ": count " + what, x.count(what), model.count(what));
        }
        Check.due(name + ", call " + calls + ": rowCount", x.rowCount(), model.rows.size());
        Check.due(name + ", call " + calls + ": refuted", x.refuted(), model.refuted());
        Check.due(name + ", call " + calls + ": evalSatisfied", x.evalSatisfied(), model.evalSatisfied());
    }

    private void compareRow(int row) {
        for (int entry = 0; entry <= model.vars; entry++) {
            BigInteger want = model.rows.get(row)[entry];
            Check.due(name + ": row " + row + ", entry " + entry, Check.number(x, row, entry), want);
            Check.due(name + ": sign", x.cell(row, entry, -1), want.signum());
            Check.due(name + ": size", x.cell(row, entry, -2), Model.limbsOf(want));
        }
    }

    /** The same numbers each time, so that a fault that is found can be found again. */
    private static final class Draw {
        private long state;

        Draw(int seed) {
            state = seed * 0x9E3779B97F4A7C15L + 1;
            any();
            any();
        }

        int any() {
            state = state * 6364136223846793005L + 1442695040888963407L;
            return (int) (state >>> 32);
        }

        int below(int bound) {
            return (int) (((any() & 0xffffffffL) * bound) >>> 32);
        }
    }
}
