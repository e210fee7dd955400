import java.math.BigInteger;
import java.util.function.Consumer;
import java.util.function.Supplier;

/** The boundary cases that promises 1 to 6 name, each sentence with tests of its own. */
public final class FeedEdgesTest {
    private static final int MIN = Integer.MIN_VALUE;
    private static final int MAX = Integer.MAX_VALUE;

    public static void main(String[] args) {
        Sayings.run(FeedEdgesTest.class);
    }

    @Says(promise = 1, text = "Variables (1 .. 6, else the nearest of these),")
    static void variables() {
        int[][] cases = {{MIN, 1}, {-1, 1}, {0, 1}, {1, 1}, {2, 2}, {3, 3}, {4, 4}, {5, 5}, {6, 6}, {7, 6}, {8, 6}, {MAX, 6}};
        for (int[] one : cases) {
            CutRows x = new CutRows(one[0], 2, 50);
            int taken = 0;
            while (taken < 20 && x.beginNumber(1) && x.endCoefficient()) {
                taken++;
            }
            Check.due("numbers of the vector, told " + one[0], taken, one[1] + 1);
            x.endConstraint();
            Check.due("the bound, told " + one[0], x.cell(0, one[1], -1), 0);
            Check.cellThrows(x, 0, one[1] + 1, -1);
            Check.due("the last variable, told " + one[0], x.evalPoint(one[1] - 1), true);
            Check.due("one variable more, told " + one[0], x.evalPoint(one[1]), false);
        }
    }

    @Says(promise = 1, text = "ROWS (1 .. 60),")
    static void rows() {
        int[][] cases = {{MIN, 1}, {-1, 1}, {0, 1}, {1, 1}, {2, 2}, {59, 59}, {60, 60}, {61, 60}, {MAX, 60}};
        for (int[] one : cases) {
            CutRows x = new CutRows(1, one[0], 4000);
            int rows = 0;
            while (rows < 62 && Check.input(x, 0, 0) >= 0) {
                rows++;
            }
            Check.due("rows, told " + one[0], rows, one[1]);
        }
    }

    @Says(promise = 1, text = "cells (1 .. 4000);")
    static void cells() {
        int[][] cases = {{MIN, 1}, {-1, 1}, {0, 1}, {1, 1}, {2, 2}, {3999, 3999}, {4000, 4000}, {4001, 4000}, {MAX, 4000}};
        for (int[] one : cases) {
            Check.due("cells, told " + one[0], new CutRows(1, 1, one[0]).count(0), one[1]);
        }
        Check.due("one cell is too few for a row", Check.input(new CutRows(1, 1, 0), 0, 0), CutRows.NOROOM);
        Check.due("two cells are enough for one", Check.input(new CutRows(1, 1, 2), 0, 0), 0);
        allFourThousandCellsCanBeUsed();
    }

    /** By rows of 20, 39 and 48 limbs a number, and at last by rows of 0. */
    private static void allFourThousandCellsCanBeUsed() {
        CutRows x = new CutRows(1, 60, 4000);
        BigInteger large = Check.power(31 * 20).subtract(BigInteger.ONE);
        Check.input(x, large, large);
        x.sealInput();
        Check.due("after 42 cells", x.count(0), 4000 - 42);
        Check.feed(x, Check.power(31 * 19));
        addAndEnd(x, 0, 1, 4000 - 42 - 80);
        Check.feed(x, Check.power(31 * 9));
        int left = 4000 - 42 - 80;
        for (int row = 2; row < 41; row++) {
            left -= 98;
            addAndEnd(x, 1, row, left);
        }
        Check.feed(x, 1);
        addAndEnd(x, 0, 41, 14);
        x.beginNumber(0);
        for (int row = 42; row < 49; row++) {
            addAndEnd(x, 0, row, 2 * (48 - row));
        }
        x.combineStart();
        Check.due("all cells are used", x.combineEnd(), CutRows.NOROOM);
    }

    private static void addAndEnd(CutRows x, int from, int row, int left) {
        x.combineStart();
        x.combineAdd(from);
        Check.due("row " + row, x.combineEnd(), row);
        Check.due("cells left by row " + row, x.count(0), left);
    }

    @Says(promise = 1, text = "no ROWS,")
    static void noRows() {
        CutRows x = new CutRows(6, 60, 4000);
        Check.due("rows", x.rowCount(), 0);
        Check.due("rows of input", x.count(1), 0);
        Check.due("cells", x.count(0), 4000);
        Check.due("refuted", x.refuted(), false);
        Check.cellThrows(x, 0, 0, 0);
        Check.due("sealed", x.count(3), 0);
        Check.due("the sum", x.count(4), 0);
    }

    @Says(promise = 1, text = "THE VECTOR empty,")
    static void vectorEmpty() {
        CutRows x = new CutRows(2, 60, 4000);
        Check.due("numbers", x.count(2), 0);
        Check.due("a row of two", Check.input(x, 1, 2), CutRows.BADSHAPE);
        Check.due("a row of three", Check.input(new CutRows(2, 60, 4000), 1, 2, 3), 0);
    }

    @Says(promise = 1, text = "the point 0.")
    static void pointZero() {
        for (int vars = 1; vars <= 6; vars++) {
            CutRows x = new CutRows(vars, 60, 4000);
            for (int var = 0; var < vars; var++) {
                Check.input(x, Check.unit(vars + 1, var, 1));
                Check.input(x, Check.unit(vars + 1, var, -1));
            }
            Check.due("0 in all of " + vars, x.evalSatisfied(), CutRows.YES);
            Check.input(x, Check.unit(vars + 1, vars, -1));
            Check.due("0 is not below 0", x.evalSatisfied(), CutRows.NO);
        }
    }

    @Says(promise = 2, text = "THE REGISTER is OPEN, without LIMBS:")
    static void openWithoutLimbs() {
        for (int sign = -1; sign <= 1; sign++) {
            CutRows x = new CutRows(1, 9, 200);
            Check.due("from none", x.beginNumber(sign), true);
            Check.due("open", x.count(5), 1);
            x.limb(5);
            x.limb(6);
            Check.due("from open", x.beginNumber(sign), true);
            Check.due("open again", x.count(5), 1);
            x.limb(7);
            x.endCoefficient();
            Check.due("from finished", x.beginNumber(sign), true);
            Check.due("open after finished", x.count(5), 1);
            x.endCoefficient();
            x.endConstraint();
            Check.rowIs("without the limbs before, sign " + sign, x, 0, sign * 7, 0);
        }
        CutRows full = new CutRows(1, 9, 200);
        for (int number = 0; number < 2; number++) {
            full.beginNumber(1);
            for (int i = 0; i < 20; i++) {
                Check.due("limb " + i + " of number " + number, full.limb(number), true);
            }
        }
    }

    @Says(promise = 2, text = "its NUMBER is what they come to, times this sign: -1, 0 or 1;")
    static void timesThisSign() {
        int[][] limbs = {{}, {0}, {0, 0}, {3}, {MAX}, {0, 1}, {MAX, MAX}, {4, 0, 2, 0}};
        for (int[] fed : limbs) {
            for (int sign = -1; sign <= 1; sign++) {
                BigInteger want = BigInteger.ZERO;
                for (int i = fed.length - 1; i >= 0; i--) {
                    want = want.shiftLeft(31).add(BigInteger.valueOf(fed[i]));
                }
                want = want.multiply(BigInteger.valueOf(sign));
                CutRows x = new CutRows(1, 9, 90);
                Check.feedLimbs(x, sign, fed);
                x.endCoefficient();
                x.beginNumber(1);
                x.endCoefficient();
                x.endConstraint();
                Check.due("number", Check.number(x, 0, 0), want);
                Check.due("sign", x.cell(0, 0, -1), want.signum());
                Check.due("limbs", x.cell(0, 0, -2), Model.limbsOf(want));
            }
        }
    }

    @Says(promise = 2, text = "false for another one (and nothing changes).")
    static void anotherSign() {
        for (int sign : new int[] {MIN, MIN + 1, -3, -2, 2, 3, MAX}) {
            Consumer<CutRows> call = x -> Check.due("sign " + sign, x.beginNumber(sign), false);
            Same.after("none, sign " + sign, Scenes::fresh, call);
            Same.after("open, sign " + sign, Scenes::open, call);
            Same.after("finished, sign " + sign, Scenes::finished, call);
            Same.after("summing, sign " + sign, Scenes::summing, call);
        }
    }

    @Says(promise = 3, text = "A LIMB more of THE REGISTER, above those that it has.")
    static void aLimbMore() {
        int[][] limbs = {{1}, {MAX}, {1, 2}, {2, 1}, {0, 0, 1}, {MAX, 0, MAX}, {1 << 30, 1 << 30}};
        for (int[] fed : limbs) {
            CutRows x = new CutRows(1, 9, 90);
            x.beginNumber(1);
            for (int w : fed) {
                Check.due("limb " + w, x.limb(w), true);
            }
            x.endCoefficient();
            x.beginNumber(1);
            x.endCoefficient();
            x.endConstraint();
            for (int i = 0; i < fed.length; i++) {
                Check.due("limb " + i, x.cell(0, 0, i), fed[i]);
            }
            Check.due("limbs", x.cell(0, 0, -2), fed.length);
        }
    }

    @Says(promise = 3, text = "False if it is below 0,")
    static void limbBelowZero() {
        for (int w : new int[] {-1, -2, MIN, MIN + 1, -MAX}) {
            Same.after("limb " + w, Scenes::open, x -> Check.due("limb " + w, x.limb(w), false));
            Same.after("first limb " + w, () -> {
                CutRows x = Scenes.withRows();
                x.beginNumber(-1);
                return x;
            }, x -> Check.due("first limb " + w, x.limb(w), false));
        }
        CutRows x = Scenes.open();
        Check.due("limb 0 is not below 0", x.limb(0), true);
    }

    @Says(promise = 3, text = "THE REGISTER is not OPEN,")
    static void limbWhenNotOpen() {
        for (int w : new int[] {0, 1, MAX}) {
            Consumer<CutRows> call = x -> Check.due("limb " + w, x.limb(w), false);
            Same.after("none", Scenes::fresh, call);
            Same.after("finished by endCoefficient", Scenes::finished, call);
            Same.after("finished by evalPoint", () -> {
                CutRows x = Scenes.open();
                x.evalPoint(1);
                return x;
            }, call);
            Same.after("finished by combineAdd", () -> {
                CutRows x = Scenes.summing();
                x.combineAdd(3);
                return x;
            }, call);
        }
    }

    @Says(promise = 3, text = "or has 20.")
    static void twentyLimbsAtMost() {
        int[] fed = {MAX, 1, 0};
        for (int sign = -1; sign <= 1; sign++) {
            for (int w : fed) {
                CutRows x = new CutRows(1, 9, 90);
                x.beginNumber(sign);
                for (int i = 0; i < 20; i++) {
                    Check.due("limb " + i + ", " + w, x.limb(w), true);
                }
                Check.due("limb 20, " + w, x.limb(w), false);
                Check.due("limb 20 of 0", x.limb(0), false);
                x.endCoefficient();
                x.beginNumber(1);
                x.endCoefficient();
                x.endConstraint();
                Check.due("limbs", x.cell(0, 0, -2), sign == 0 || w == 0 ? 0 : 20);
            }
        }
        Same.after("limb 20", FeedEdgesTest::withTwentyLimbs, x -> Check.due("limb 20", x.limb(3), false));
    }

    private static CutRows withTwentyLimbs() {
        CutRows x = Scenes.withRows();
        x.beginNumber(-1);
        for (int i = 0; i < 20; i++) {
            x.limb(i);
        }
        return x;
    }

    @Says(promise = 4, text = "THE REGISTER is FINISHED, and its NUMBER one more of THE VECTOR.")
    static void oneMoreOfTheVector() {
        CutRows x = new CutRows(2, 9, 90);
        x.beginNumber(-1);
        Check.due("without limbs", x.endCoefficient(), true);
        Check.due("finished", x.count(5), 2);
        Check.due("one", x.count(2), 1);
        Check.feed(x, Check.power(31 * 20).subtract(BigInteger.ONE).negate());
        Check.due("with 20 limbs", x.endCoefficient(), true);
        Check.due("two", x.count(2), 2);
        Check.feedLimbs(x, 1, 0, 8, 0);
        Check.due("with limbs of 0", x.endCoefficient(), true);
        Check.due("three", x.count(2), 3);
        x.endConstraint();
        Check.due("the first", Check.number(x, 0, 0), BigInteger.ZERO);
        Check.due("the second", Check.number(x, 0, 1), BigInteger.ONE.subtract(Check.power(31 * 20)));
        Check.due("the last", Check.number(x, 0, 2), Check.power(34));
    }

    @Says(promise = 4, text = "False if it is not OPEN,")
    static void endCoefficientWhenNotOpen() {
        Consumer<CutRows> call = x -> Check.due("not open", x.endCoefficient(), false);
        Same.after("none", Scenes::fresh, call);
        Same.after("finished by endCoefficient", Scenes::finished, call);
        Same.after("finished by evalPoint", () -> {
            CutRows x = Scenes.open();
            x.evalPoint(0);
            return x;
        }, call);
        Same.after("finished by combineAdd", () -> {
            CutRows x = Scenes.summing();
            x.combineAdd(3);
            return x;
        }, call);
    }

    @Says(promise = 4, text = "or THE VECTOR is full.")
    static void endCoefficientWhenFull() {
        Same.after("full", Scenes::fullVector, x -> {
            Check.due("full", x.endCoefficient(), false);
            Check.due("full again", x.endCoefficient(), false);
        });
        for (int vars = 1; vars <= 6; vars++) {
            CutRows x = new CutRows(vars, 9, 90);
            long[] numbers = new long[vars + 1];
            numbers[vars] = 4;
            for (long number : numbers) {
                Check.feed(x, number);
                Check.due("not full", x.endCoefficient(), true);
            }
            Check.feed(x, 9);
            Check.due("full", x.endCoefficient(), false);
            Check.due("the register stays open", x.count(5), 1);
            Check.due("numbers", x.count(2), vars + 1);
            x.endConstraint();
            Check.rowIs("the row", x, 0, numbers);
            Check.due("room again", x.endCoefficient(), true);
        }
    }

    @Says(promise = 5, text = "THE VECTOR is a ROW of INPUT: its number;")
    static void rowOfInput() {
        CutRows x = new CutRows(1, 3, 90);
        for (int row = 0; row < 3; row++) {
            Check.due("row " + row, Check.input(x, row - 1, -row), row);
            Check.due("rows of input", x.count(1), row + 1);
            Check.due("rows", x.rowCount(), row + 1);
        }
        for (int row = 0; row < 3; row++) {
            Check.rowIs("row " + row, x, row, row - 1, -row);
        }
    }

    @Says(promise = 5, text = "or SEALED,")
    static void constraintWhenSealed() {
        CutRows x = new CutRows(1, 3, 90);
        Check.fillVector(x, BigInteger.ONE, BigInteger.ONE);
        x.sealInput();
        Check.due("full when sealed", x.endConstraint(), CutRows.SEALED);
        Check.due("filled since", Check.input(x, 1, 1), CutRows.SEALED);
        Check.due("rows", x.rowCount(), 0);
        constraintChangesNothingElse("sealed", Scenes::sealedOpen, CutRows.SEALED, 1, 2, 3);
    }

    @Says(promise = 5, text = "BADSHAPE (it is not full),")
    static void constraintOfBadShape() {
        for (int vars = 1; vars <= 6; vars++) {
            for (int size = 0; size <= vars; size++) {
                CutRows x = new CutRows(vars, 3, 90);
                Check.due(size + " numbers of " + vars + " variables", Check.input(x, new long[size]), CutRows.BADSHAPE);
                Check.due("rows", x.rowCount(), 0);
            }
            Check.due("full", Check.input(new CutRows(vars, 3, 90), new long[vars + 1]), 0);
        }
        constraintChangesNothingElse("empty", Scenes::withRows, CutRows.BADSHAPE);
        constraintChangesNothingElse("two of three", Scenes::withRows, CutRows.BADSHAPE, 1, 2);
    }

    @Says(promise = 5, text = "NOROOM,")
    static void constraintWithoutRoom() {
        Check.due("rows", Check.input(Scenes.noRowsLeft(), 0, 0, 0), CutRows.NOROOM);
        Check.due("four cells", Check.input(Scenes.threeCellsLeft(), 0, 0, 1), CutRows.NOROOM);
        Check.due("three cells", Check.input(Scenes.threeCellsLeft(), 0, 0, 0), 2);
        constraintChangesNothingElse("rows", Scenes::noRowsLeft, CutRows.NOROOM, 0, 0, 0);
        constraintChangesNothingElse("cells", Scenes::threeCellsLeft, CutRows.NOROOM, 1, 1, 1);
    }

    /** All but the vector is as if it had never been filled. */
    private static void constraintChangesNothingElse(String what, Supplier<CutRows> scene, int code, long... numbers) {
        Same.as(what, () -> {
            CutRows x = scene.get();
            x.endConstraint();
            for (long number : numbers) {
                Check.feed(x, number);
                x.endCoefficient();
            }
            Check.feedLimbs(x, 1, 4, 6);
            Check.due(what, x.endConstraint(), code);
            return x;
        }, () -> {
            CutRows x = scene.get();
            x.endConstraint();
            Check.feedLimbs(x, 1, 4, 6);
            return x;
        });
    }

    @Says(promise = 5, text = "in this order.")
    static void codesOfConstraintInOrder() {
        for (boolean rows : new boolean[] {true, false}) {
            Supplier<CutRows> scene = rows ? Scenes::noRowsLeft : Scenes::threeCellsLeft;
            Check.due("bad shape, no room", Check.input(scene.get(), 1, 1), CutRows.BADSHAPE);
            Check.due("empty, no room", scene.get().endConstraint(), CutRows.BADSHAPE);
            CutRows sealed = scene.get();
            sealed.sealInput();
            Check.due("sealed, no room", Check.input(sealed, 1, 1, 1), CutRows.SEALED);
            Check.due("sealed, bad shape, no room", Check.input(sealed, 1, 1), CutRows.SEALED);
        }
        CutRows sealed = Scenes.sealedOpen();
        Check.due("sealed, bad shape", sealed.endConstraint(), CutRows.SEALED);
        Check.due("sealed, empty", sealed.endConstraint(), CutRows.SEALED);
    }

    @Says(promise = 5, text = "In any case THE VECTOR is empty then.")
    static void vectorIsEmptyThen() {
        emptyAfter("a row", Scenes.fresh(), 0, 1, 2, 3);
        emptyAfter("a bad shape", Scenes.fresh(), CutRows.BADSHAPE, 1, 2);
        emptyAfter("no rows left", Scenes.noRowsLeft(), CutRows.NOROOM, 1, 2, 3);
        emptyAfter("too few cells", Scenes.threeCellsLeft(), CutRows.NOROOM, 1, 2, 3);
        CutRows sealed = Scenes.fresh();
        sealed.sealInput();
        emptyAfter("sealed", sealed, CutRows.SEALED, 1, 2, 3);
        emptyAfter("sealed and not full", sealed, CutRows.SEALED, 1);
    }

    private static void emptyAfter(String what, CutRows x, int code, long... numbers) {
        Check.due(what, Check.input(x, numbers), code);
        Check.due("numbers after " + what, x.count(2), 0);
        for (int entry = 0; entry < 3; entry++) {
            x.beginNumber(0);
            Check.due("room for number " + entry + " after " + what, x.endCoefficient(), true);
        }
        x.beginNumber(0);
        Check.due("no room for a fourth after " + what, x.endCoefficient(), false);
    }

    @Says(promise = 6, text = "It is SEALED; false if it was.")
    static void sealedOnce() {
        CutRows x = new CutRows(1, 3, 90);
        Check.due("not sealed", x.count(3), 0);
        Check.due("without rows", x.sealInput(), true);
        Check.due("sealed", x.count(3), 1);
        Check.due("again", x.sealInput(), false);
        Check.due("still sealed", x.count(3), 1);
        Check.due("a third time", x.sealInput(), false);
        Check.due("no input", Check.input(x, 1, 1), CutRows.SEALED);
        CutRows full = Scenes.noRowsLeft();
        Check.due("with all rows", full.sealInput(), true);
        Same.after("sealed already", Scenes::sealedOpen, y -> Check.due("again", y.sealInput(), false));
        Same.after("summing", Scenes::summing, y -> Check.due("again", y.sealInput(), false));
    }

    @Says(promise = 6, text = "It is SEALED;")
    static void sealingChangesNothingElse() {
        CutRows x = Scenes.open();
        int[] before = new int[6];
        for (int what = 0; what < 6; what++) {
            before[what] = x.count(what);
        }
        x.sealInput();
        for (int what = 0; what < 6; what++) {
            Check.due("count " + what, x.count(what), what == 3 ? 1 : before[what]);
        }
        Check.due("the point", x.evalSatisfied(), CutRows.YES);
        Check.due("the register stays open", x.limb(1), true);
    }
}
