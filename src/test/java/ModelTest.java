import java.math.BigInteger;
import java.util.function.Supplier;

/**
 * Runs of calls drawn by a fixed rule, each answer compared with the model's. An object has its 512
 * promised calls here and none beyond, looks included: so each run is gone through several times,
 * each time broken off elsewhere, and the calls that are left look at what it came to there.
 */
public final class ModelTest {
    private static final int RUNS = 3000;
    private static final int PARTS = 4;
    private static final int PROMISED = 512;
    private static final int[] EDGE_LIMBS = {0, 1, 2, 1 << 30, (1 << 30) - 1, Integer.MAX_VALUE, Integer.MAX_VALUE - 1};
    private static final int CODES = 9;

    private final Draw draw;
    private final Draw lookDraw;
    private final CutRows x;
    private final Model model;
    private final int kind;
    private final String name;
    private final int breakOff;
    private final int[] reached;
    private int calls = 0;

    private ModelTest(int run, int part, int[] reached) {
        name = "run " + run + ", part " + part;
        this.reached = reached;
        draw = new Draw(run);
        lookDraw = new Draw(run * PARTS + part);
        breakOff = (part * PROMISED + lookDraw.below(PROMISED)) / PARTS;
        kind = draw.below(4);
        int vars = 1 + draw.below(6);
        int rows = draw.below(3) == 0 ? 1 + draw.below(12) : 60;
        int cells = draw.below(3) == 0 ? 1 + draw.below(400) : 4000;
        if (draw.below(20) == 0) {
            vars = draw.any();
            rows = draw.any();
            cells = draw.any();
        }
        x = new CutRows(vars, rows, cells);
        model = new Model(vars, rows, cells);
    }

    public static void main(String[] args) {
        int[] reached = new int[CODES];
        int refuted = 0;
        int longest = 0;
        int spent = 0;
        for (int run = 0; run < RUNS; run++) {
            for (int part = 0; part < PARTS; part++) {
                ModelTest test = new ModelTest(run, part, reached);
                test.go();
                refuted += test.model.refuted() ? 1 : 0;
                longest += test.hasLongest() ? 1 : 0;
                spent = Math.max(spent, test.calls);
            }
        }
        for (int code : new int[] {2, 3, 4, 5, 6, 7, 8}) {
            Check.due("some call answered " + -code, reached[code] > 0, true);
        }
        Check.due("some run was refuted", refuted > 0, true);
        Check.due("some run came to coefficients of 48 limbs", longest > 0, true);
        Check.due("some run used all promised calls, and none more:", spent, PROMISED);
        Check.end();
    }

    private void go() {
        // Long numbers take many calls to feed, and some are to be left for sums of them.
        int inputs = kind < 2 ? draw.below(6) : 1 + draw.below(2);
        for (int i = 0; i < inputs; i++) {
            feedRow();
        }
        if (draw.below(10) != 0) {
            ask("sealInput", x::sealInput, model::sealInput);
        }
        while (calls < breakOff) {
            step();
            if (lookDraw.below(3) == 0) {
                glance();
            }
        }
        lookAtAll();
    }

    private boolean hasLongest() {
        for (BigInteger[] row : model.rows) {
            if (Model.limbsOf(row[0]) == 48) {
                return true;
            }
        }
        return false;
    }

    /** Neither of the two is called once the promised calls are used up. */
    private void ask(String what, Supplier<Object> call, Supplier<Object> modelCall) {
        if (calls == PROMISED) {
            return;
        }
        calls++;
        Object got = outcome(call);
        Check.due(name + ", call " + calls + ": " + what, got, outcome(modelCall));
        if (got instanceof Integer code && code < 0 && code > -CODES) {
            reached[-code]++;
        }
    }

    private static Object outcome(Supplier<Object> call) {
        try {
            return call.get();
        } catch (RuntimeException e) {
            return e.getClass().getName();
        }
    }

    private void feedRow() {
        BigInteger common = draw.below(2) == 0 ? drawNumber(6) : BigInteger.ONE;
        for (int i = 0; i <= model.vars; i++) {
            BigInteger number = drawNumber(common.bitLength() > 1 ? 14 : 20);
            feed(i < model.vars ? number.multiply(common) : number);
            ask("endCoefficient", x::endCoefficient, model::endCoefficient);
        }
        ask("endConstraint", x::endConstraint, model::endConstraint);
    }

    /** Now and then with a sign that is not the number's, or with limbs of 0 above. */
    private void feed(BigInteger number) {
        beginNumber(draw.below(8) == 0 ? draw.below(3) - 1 : number.signum());
        BigInteger rest = number.abs();
        while (rest.signum() != 0) {
            limb(rest.intValue() & Integer.MAX_VALUE);
            rest = rest.shiftRight(31);
        }
        for (int zeros = draw.below(8) == 0 ? draw.below(4) : 0; zeros > 0; zeros--) {
            limb(0);
        }
    }

    private void beginNumber(int sign) {
        ask("beginNumber " + sign, () -> x.beginNumber(sign), () -> model.beginNumber(sign));
    }

    private void limb(int w) {
        ask("limb " + w, () -> x.limb(w), () -> model.limb(w));
    }

    private void evalPoint(int var) {
        ask("evalPoint " + var, () -> x.evalPoint(var), () -> model.evalPoint(var));
    }

    private void combineAdd(int row) {
        ask("combineAdd " + row, () -> x.combineAdd(row), () -> model.combineAdd(row));
    }

    private void divideRound(int row) {
        ask("divideRound " + row, () -> x.divideRound(row), () -> model.divideRound(row));
    }

    private void cell(int row, int entry, int what) {
        ask("cell " + row + " " + entry + " " + what, () -> x.cell(row, entry, what), () -> model.cell(row, entry, what));
    }

    private void count(int what) {
        ask("count " + what, () -> x.count(what), () -> model.count(what));
    }

    private BigInteger drawNumber(int most) {
        if (draw.below(8) == 0) {
            return BigInteger.ZERO;
        }
        int limbs = kind < 2 ? 1 : 1 + draw.below(most);
        BigInteger number = BigInteger.ZERO;
        for (int i = 0; i < limbs; i++) {
            number = number.shiftLeft(31).add(BigInteger.valueOf(drawLimb()));
        }
        return draw.below(2) == 0 ? number : number.negate();
    }

    private int drawLimb() {
        if (kind == 0) {
            return draw.below(5);
        }
        if (kind == 2 || draw.below(4) == 0) {
            return EDGE_LIMBS[draw.below(EDGE_LIMBS.length)];
        }
        return draw.any() & Integer.MAX_VALUE;
    }

    private int drawRow() {
        int rows = model.rows.size();
        if (draw.below(20) == 0) {
            return draw.below(2) == 0 ? draw.any() : rows;
        }
        if (draw.below(3) == 0) {
            return rows - 1;
        }
        return draw.below(rows + 1) - (draw.below(4) == 0 ? 1 : 0);
    }

    private void step() {
        switch (draw.below(16)) {
            case 0 -> stray();
            case 1, 2 -> ask("combineStart", x::combineStart, model::combineStart);
            case 3 -> ask("combineEnd", x::combineEnd, model::combineEnd);
            case 4, 5 -> divideRound(drawRow());
            case 6 -> lookAtPoint();
            case 7 -> combineAdd(drawRow());
            case 8, 9, 10 -> sumUp();
            default -> addOnce(draw.below(3) == 0);
        }
    }

    /** A whole sum at once, since steps drawn one by one seldom come to one of long numbers. */
    private void sumUp() {
        ask("combineStart", x::combineStart, model::combineStart);
        for (int rows = 1 + draw.below(2); rows > 0; rows--) {
            addOnce(draw.below(4) != 0);
        }
        ask("combineEnd", x::combineEnd, model::combineEnd);
        if (draw.below(2) == 0) {
            divideRound(model.rows.size() - 1);
        }
    }

    private void stray() {
        switch (draw.below(8)) {
            case 0 -> feedRow();
            case 1 -> beginNumber(draw.below(2) == 0 ? draw.any() : draw.below(5) - 2);
            case 2 -> limb(draw.any());
            case 3 -> ask("endCoefficient", x::endCoefficient, model::endCoefficient);
            case 4 -> ask("endConstraint", x::endConstraint, model::endConstraint);
            case 5 -> ask("sealInput", x::sealInput, model::sealInput);
            case 6 -> ask("evalStart", x::evalStart, model::evalStart);
            default -> evalPoint(draw.below(8) - 1);
        }
    }

    private void lookAtPoint() {
        int var = draw.below(model.vars);
        feed(drawNumber(20));
        evalPoint(var);
        ask("evalSatisfied", x::evalSatisfied, model::evalSatisfied);
    }

    private void addOnce(boolean upToTheTop) {
        int row = drawRow();
        BigInteger times = upToTheTop ? drawUpToTheTop(row) : drawNumber(20);
        feed(draw.below(5) == 0 ? times : times.abs());
        combineAdd(row);
    }

    /** A number that makes the row's longest number about as long as a sum's may be. */
    private BigInteger drawUpToTheTop(int row) {
        int longest = 0;
        for (int entry = 0; row >= 0 && row < model.rows.size() && entry <= model.vars; entry++) {
            longest = Math.max(longest, Model.limbsOf(model.rows.get(row)[entry]));
        }
        int limbs = Math.min(20, Math.max(1, 48 - longest + draw.below(2)));
        return BigInteger.valueOf(drawLimb()).shiftLeft(31 * (limbs - 1)).add(drawNumber(limbs).abs());
    }

    private void glance() {
        switch (lookDraw.below(6)) {
            case 0 -> ask("rowCount", x::rowCount, model::rowCount);
            case 1 -> ask("refuted", x::refuted, model::refuted);
            case 2 -> ask("evalSatisfied", x::evalSatisfied, model::evalSatisfied);
            case 3 -> glanceAtNumber();
            case 4 -> count(lookDraw.below(8) - 1);
            default -> count(0);
        }
    }

    private void glanceAtNumber() {
        int row = lookDraw.below(model.rows.size() + 2) - 1;
        int entry = lookDraw.below(model.vars + 3) - 1;
        cell(row, entry, lookDraw.below(53) - 4);
    }

    /** The newest rows first, since the calls that are left may be too few for all of them. */
    private void lookAtAll() {
        for (int what = 0; what <= 5; what++) {
            count(what);
        }
        ask("rowCount", x::rowCount, model::rowCount);
        ask("refuted", x::refuted, model::refuted);
        ask("evalSatisfied", x::evalSatisfied, model::evalSatisfied);
        for (int row = model.rows.size() - 1; row >= 0 && calls < PROMISED; row--) {
            for (int entry = 0; entry <= model.vars; entry++) {
                lookAtNumber(row, entry);
            }
        }
    }

    private void lookAtNumber(int row, int entry) {
        int size = Model.limbsOf(model.rows.get(row)[entry]);
        for (int what = -2; what <= size; what++) {
            cell(row, entry, what);
        }
    }

    /** The same numbers each time, so that a fault that is found can be found again. */
    private static final class Draw {
        private long state;

        Draw(int seed) {
            state = seed * 0x9E3779B97F4A7C15L + 1;
            any();
            any();
        }

        int any() {
            state = state * 6364136223846793005L + 1442695040888963407L;
            return (int) (state >>> 32);
        }

        int below(int bound) {
            return (int) (((any() & 0xffffffffL) * bound) >>> 32);
        }
    }
}
