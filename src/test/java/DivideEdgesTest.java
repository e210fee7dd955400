import java.math.BigInteger;
import java.util.function.Consumer;

/** The boundary cases that promises 10 to 12 name, each sentence with tests of its own. */
public final class DivideEdgesTest {
    private static final int MIN = Integer.MIN_VALUE;
    private static final int MAX = Integer.MAX_VALUE;
    private static final BigInteger ONE = BigInteger.ONE;

    public static void main(String[] args) {
        Sayings.run(DivideEdgesTest.class);
    }

    @Says(promise = 10, text = "A ROW with its COEFFICIENTS divided by the greatest number that divides all of them,")
    static void dividedByTheGreatest() {
        long[][][] cases = {
            {{6, -9, 15, 0}, {2, -3, 5, 0}},
            {{0, 0, 7, 0}, {0, 0, 1, 0}},
            {{-7, 0, 0, 0}, {-1, 0, 0, 0}},
            {{1, 100, 1000, 0}, {1, 100, 1000, 0}},
            {{6, 10, 15, 0}, {6, 10, 15, 0}},
            {{-4, -8, -12, 0}, {-1, -2, -3, 0}},
            {{0, 12, 18, 0}, {0, 2, 3, 0}},
            {{12, 0, 18, 0}, {2, 0, 3, 0}},
            {{MAX, MAX, -MAX, 0}, {1, 1, -1, 0}},
            {{1L << 31, 1L << 32, 1L << 33, 0}, {1, 2, 4, 0}},
            {{1L << 62, 1L << 31, 3L << 31, 0}, {1L << 31, 1, 3, 0}},
            {{5, 5, 5, 0}, {1, 1, 1, 0}},
            {{7 * 6765, 7 * 4181, 0, 0}, {6765, 4181, 0, 0}},
            {{4181L << 31, -6765L << 31, 6765L << 32, 0}, {4181, -6765, 6765 * 2, 0}},
            {{3 * 35, 3 * 77, 3 * 55, 0}, {35, 77, 55, 0}},
        };
        for (int i = 0; i < cases.length; i++) {
            CutRows x = new CutRows(3, 3, 90);
            Check.input(x, cases[i][0]);
            x.sealInput();
            Check.due("case " + i, x.divideRound(0), 1);
            Check.rowIs("case " + i, x, 1, cases[i][1]);
            Check.rowIs("the row itself, case " + i, x, 0, cases[i][0]);
        }
    }

    @Says(promise = 10, text = "the greatest number that divides all of them,")
    static void everyCoefficientIsLookedAt() {
        for (int vars = 1; vars <= 6; vars++) {
            for (int odd = 0; odd < vars; odd++) {
                CutRows x = new CutRows(vars, 3, 90);
                long[] numbers = new long[vars + 1];
                long[] halves = new long[vars + 1];
                for (int entry = 0; entry < vars; entry++) {
                    numbers[entry] = entry == odd ? 6 : 12;
                    halves[entry] = entry == odd ? 1 : 2;
                }
                Check.input(x, numbers);
                x.sealInput();
                x.divideRound(0);
                Check.rowIs("6 at " + odd + " of " + vars, x, 1, halves);
            }
        }
    }

    @Says(promise = 10, text = "the greatest number that divides all of them,")
    static void theBoundIsNotOneOfThem() {
        long[][] cases = {{4, 8, 3}, {4, 8, 4}, {4, 8, 2}, {4, 8, 0}};
        long[][] due = {{1, 2, 0}, {1, 2, 1}, {1, 2, 0}, {1, 2, 0}};
        for (int i = 0; i < cases.length; i++) {
            CutRows x = new CutRows(2, 3, 90);
            Check.input(x, cases[i]);
            x.sealInput();
            x.divideRound(0);
            Check.rowIs("bound " + cases[i][2], x, 1, due[i]);
        }
    }

    @Says(promise = 10, text = "its BOUND divided by that, cut downwards,")
    static void cutDownwards() {
        for (long divisor : new long[] {1, 2, 7, MAX, 1L << 31, (1L << 40) + 1}) {
            for (long times = -2; times <= 2; times++) {
                for (long more = -1; more <= 1; more++) {
                    cutIsDue(divisor, times * divisor + more);
                    cutIsDue(-divisor, times * divisor + more);
                }
            }
        }
        for (long bound = -15; bound <= 15; bound++) {
            cutIsDue(7, bound);
        }
    }

    private static void cutIsDue(long coefficient, long bound) {
        CutRows x = new CutRows(1, 3, 90);
        Check.input(x, coefficient, bound);
        x.sealInput();
        Check.due("new row", x.divideRound(0), 1);
        long cut = Math.floorDiv(bound, Math.abs(coefficient));
        Check.rowIs(bound + " by " + coefficient, x, 1, Long.signum(coefficient), cut);
        Check.due("sign", x.cell(1, 1, -1), Long.signum(cut));
        Check.due("limbs", x.cell(1, 1, -2), Model.limbsOf(BigInteger.valueOf(cut)));
    }

    /** -(2^(31 k) - 1) and a bit less come to -2^(31 k): a limb more than the quotient without the cut. */
    @Says(promise = 10, text = "cut downwards,")
    static void cutCarriesIntoALimbMore() {
        for (int limbs = 1; limbs <= 17; limbs++) {
            BigInteger divisor = BigInteger.valueOf(1000);
            BigInteger low = Check.power(31 * limbs).subtract(ONE).multiply(divisor).add(ONE).negate();
            CutRows x = new CutRows(1, 3, 90);
            Check.input(x, divisor, low);
            x.sealInput();
            x.divideRound(0);
            Check.due("cut at " + limbs + " limbs", Check.number(x, 1, 1), Check.power(31 * limbs).negate());
            Check.due("limbs", x.cell(1, 1, -2), limbs + 1);
        }
    }

    /** A divisor far above the bound: what is left is 0, or -1 below 0. */
    @Says(promise = 10, text = "cut downwards,")
    static void boundBelowTheDivisor() {
        BigInteger large = Check.power(31 * 20).subtract(ONE);
        BigInteger[][] cases = {{large, ONE, BigInteger.ZERO}, {large, ONE.negate(), ONE.negate()},
            {large, BigInteger.ZERO, BigInteger.ZERO}, {large.negate(), large.subtract(ONE), BigInteger.ZERO},
            {large, large, ONE}, {large, large.negate(), ONE.negate()},
            {large.subtract(ONE), large.negate(), BigInteger.valueOf(-2)}};
        for (int i = 0; i < cases.length; i++) {
            CutRows x = new CutRows(1, 3, 90);
            Check.input(x, cases[i][0], cases[i][1]);
            x.sealInput();
            Check.due("new row", x.divideRound(0), 1);
            Check.due("coefficient, case " + i, Check.number(x, 1, 0), BigInteger.valueOf(cases[i][0].signum()));
            Check.due("bound, case " + i, Check.number(x, 1, 1), cases[i][2]);
        }
    }

    @Says(promise = 10, text = "is a new ROW: its number;")
    static void aNewRow() {
        CutRows x = new CutRows(1, 5, 90);
        Check.input(x, 3, 10);
        x.sealInput();
        Check.due("first", x.divideRound(0), 1);
        Check.due("the same again", x.divideRound(0), 2);
        Check.due("one that was divided", x.divideRound(1), 3);
        x.combineStart();
        Check.add(x, 5, 3);
        x.combineEnd();
        Check.rowIs("combined", x, 4, 5, 15);
        for (int row = 1; row <= 3; row++) {
            Check.rowIs("row " + row, x, row, 1, 3);
        }
        Check.due("rows", x.rowCount(), 5);
        Check.due("input", x.count(1), 1);
        Check.due("cells", x.count(0), 90 - 5 * 4);
        CutRows summing = Scenes.summing();
        Check.due("beside a sum", summing.divideRound(0), 4);
        Check.due("the sum stays begun", summing.count(4), 1);
        Check.due("the register stays open", summing.count(5), 1);
        Check.due("the vector stays", summing.count(2), 1);
        summing.combineEnd();
        Check.rowIs("the sum stays", summing, 5, 2, 3, -8);
    }

    @Says(promise = 10, text = "or BADROW (there is no such ROW, or it is not SEALED),")
    static void divideNoSuchRow() {
        for (int row : new int[] {MIN, -2, -1, 4, 5, 20, 60, MAX}) {
            Consumer<CutRows> call = x -> Check.due("row " + row, x.divideRound(row), CutRows.BADROW);
            Same.after("sealed, row " + row, Scenes::sealedOpen, call);
            Same.after("summing, row " + row, Scenes::summing, call);
        }
        Check.due("the last row", Scenes.sealedOpen().divideRound(3), 4);
        CutRows none = Scenes.fresh();
        none.sealInput();
        Check.due("no rows at all", none.divideRound(0), CutRows.BADROW);
    }

    @Says(promise = 10, text = "or it is not SEALED),")
    static void divideNotSealed() {
        for (int row : new int[] {-1, 0, 3, 4}) {
            Consumer<CutRows> call = x -> Check.due("row " + row, x.divideRound(row), CutRows.BADROW);
            Same.after("open, row " + row, Scenes::open, call);
            Same.after("finished, row " + row, Scenes::finished, call);
            Same.after("fresh, row " + row, Scenes::fresh, call);
        }
        CutRows x = Scenes.open();
        Check.due("not sealed", x.divideRound(0), CutRows.BADROW);
        x.sealInput();
        Check.due("sealed", x.divideRound(0), 4);
    }

    @Says(promise = 10, text = "ZEROROW (all COEFFICIENTS are 0),")
    static void divideRowOfZeros() {
        for (int vars = 1; vars <= 6; vars++) {
            for (long bound = -1; bound <= 1; bound++) {
                CutRows x = new CutRows(vars, 3, 90);
                Check.input(x, Check.unit(vars + 1, vars, bound));
                x.sealInput();
                Check.due("all are 0, bound " + bound, x.divideRound(0), CutRows.ZEROROW);
                Check.due("rows", x.rowCount(), 1);
                Check.due("refuted", x.refuted(), false);
            }
            for (int var = 0; var < vars; var++) {
                CutRows x = new CutRows(vars, 3, 90);
                Check.input(x, Check.unit(vars + 1, var, -3));
                x.sealInput();
                Check.due("not 0 at " + var + " alone", x.divideRound(0), 1);
            }
        }
        Same.after("a sum of 0", () -> {
            CutRows x = Scenes.sealedOpen();
            x.combineStart();
            x.combineEnd();
            Scenes.beginSum(x);
            return x;
        }, x -> Check.due("a sum of 0", x.divideRound(4), CutRows.ZEROROW));
    }

    @Says(promise = 10, text = "NOROOM,")
    static void divideWithoutRoom() {
        CutRows full = Scenes.noRowsLeft();
        full.sealInput();
        Check.due("rows", full.divideRound(0), CutRows.NOROOM);
        Check.due("rows stay", full.rowCount(), 2);
        Check.due("cells stay", full.count(0), 300 - 10);
        for (int left = 3; left <= 5; left++) {
            CutRows x = new CutRows(1, 9, 4 + left);
            Check.input(x, 2, 5);
            x.sealInput();
            Check.due("four cells of " + left, x.divideRound(0), left < 4 ? CutRows.NOROOM : 1);
            Check.due("cells left of " + left, x.count(0), left < 4 ? left : left - 4);
        }
        theQuotientsCellsAreCounted();
    }

    /** The row that is divided has far more cells than are left, and the new one just as many. */
    private static void theQuotientsCellsAreCounted() {
        BigInteger large = Check.power(31 * 19);
        for (int left = 2; left <= 3; left++) {
            CutRows x = new CutRows(1, 9, 2 + 20 + 19 + left);
            Check.input(x, large, large.subtract(ONE));
            x.sealInput();
            Check.due("three cells of " + left, x.divideRound(0), left < 3 ? CutRows.NOROOM : 1);
        }
    }

    @Says(promise = 10, text = "NOROOM,")
    static void divideWithoutRoomChangesNothing() {
        Same.after("rows", DivideEdgesTest::summingWithoutRows, x -> Check.due("rows", x.divideRound(0), CutRows.NOROOM));
        Same.after("cells", DivideEdgesTest::summingWithoutCells, x -> Check.due("cells", x.divideRound(0), CutRows.NOROOM));
    }

    private static CutRows summingWithoutRows() {
        CutRows x = Scenes.noRowsLeft();
        x.sealInput();
        x.combineStart();
        Check.feedLimbs(x, 1, 4, 6);
        return x;
    }

    private static CutRows summingWithoutCells() {
        CutRows x = Scenes.threeCellsLeft();
        x.sealInput();
        x.combineStart();
        Check.feedLimbs(x, 1, 4, 6);
        return x;
    }

    @Says(promise = 10, text = "in this order.")
    static void codesOfDivideInOrder() {
        for (CutRows x : new CutRows[] {Scenes.noRowsLeft(), Scenes.threeCellsLeft()}) {
            Check.due("not sealed, no room", x.divideRound(0), CutRows.BADROW);
            Check.due("not sealed, zeros, no room", x.divideRound(1), CutRows.BADROW);
            x.sealInput();
            Check.due("no row, no room", x.divideRound(2), CutRows.BADROW);
            Check.due("row -1, no room", x.divideRound(-1), CutRows.BADROW);
            Check.due("zeros, no room", x.divideRound(1), CutRows.ZEROROW);
            Check.due("no room", x.divideRound(0), CutRows.NOROOM);
        }
        CutRows x = Scenes.fresh();
        Check.input(x, 0, 0, 1);
        Check.due("not sealed, zeros", x.divideRound(0), CutRows.BADROW);
    }

    @Says(promise = 11, text = "Whether some ROW that was made (by combineEnd, divideRound; not INPUT)")
    static void inputDoesNotRefute() {
        CutRows x = new CutRows(1, 9, 90);
        Check.due("no rows", x.refuted(), false);
        Check.input(x, 0, -1);
        Check.due("input", x.refuted(), false);
        x.sealInput();
        Check.due("input that is sealed", x.refuted(), false);
        x.combineStart();
        Check.add(x, 1, 0);
        Check.due("a sum that is no row yet", x.refuted(), false);
        x.combineEnd();
        Check.due("made", x.refuted(), true);
    }

    @Says(promise = 11, text = "Whether some ROW")
    static void someRowIsEnough() {
        CutRows x = new CutRows(1, 9, 90);
        Check.input(x, 2, 1);
        Check.input(x, -2, -1);
        x.sealInput();
        x.divideRound(0);
        x.divideRound(1);
        Check.due("not yet", x.refuted(), false);
        x.combineStart();
        Check.add(x, 1, 2);
        Check.add(x, 1, 3);
        x.combineEnd();
        Check.due("refuted", x.refuted(), true);
        x.combineStart();
        x.combineEnd();
        Check.due("a row of 0 since", x.refuted(), true);
        x.divideRound(0);
        Check.due("a divided row since", x.refuted(), true);
        x.combineStart();
        Check.due("a sum since", x.refuted(), true);
    }

    @Says(promise = 11, text = "has COEFFICIENTS of 0 alone,")
    static void coefficientsOfZeroAlone() {
        for (int vars = 1; vars <= 6; vars++) {
            for (int var = 0; var < vars; var++) {
                for (long number = -1; number <= 1; number += 2) {
                    CutRows x = new CutRows(vars, 9, 90);
                    long[] numbers = Check.unit(vars + 1, var, number);
                    numbers[vars] = -5;
                    Check.input(x, numbers);
                    x.sealInput();
                    copyRow(x);
                    x.divideRound(0);
                    Check.due("not 0 at " + var + " of " + vars, x.refuted(), false);
                }
            }
            CutRows zeros = new CutRows(vars, 9, 90);
            Check.input(zeros, Check.unit(vars + 1, vars, -5));
            zeros.sealInput();
            copyRow(zeros);
            Check.due("0 in all of " + vars, zeros.refuted(), true);
        }
    }

    private static void copyRow(CutRows x) {
        x.combineStart();
        Check.add(x, 1, 0);
        x.combineEnd();
    }

    @Says(promise = 11, text = "and a BOUND below 0.")
    static void aBoundBelowZero() {
        BigInteger large = Check.power(31 * 20).subtract(ONE);
        BigInteger[] bounds = {ONE.negate(), BigInteger.ZERO, ONE, large, large.negate(), Check.power(31).negate(), Check.power(31)};
        for (BigInteger bound : bounds) {
            CutRows x = new CutRows(1, 9, 90);
            Check.input(x, BigInteger.ZERO, bound);
            x.sealInput();
            copyRow(x);
            Check.due("bound " + bound, x.refuted(), bound.signum() < 0);
        }
    }

    @Says(promise = 11, text = "Whether some ROW that was made")
    static void whatHasNoRoomWasNotMade() {
        CutRows rows = new CutRows(1, 1, 90);
        Check.input(rows, 0, -1);
        rows.sealInput();
        copyRow(rows);
        Check.due("no rows left", rows.refuted(), false);
        CutRows cells = new CutRows(1, 9, 5);
        Check.input(cells, 0, -1);
        cells.sealInput();
        copyRow(cells);
        Check.due("too few cells", cells.refuted(), false);
    }

    @Says(promise = 12, text = "How many ROWS.")
    static void howManyRows() {
        CutRows x = new CutRows(1, 4, 90);
        Check.due("none", x.rowCount(), 0);
        Check.input(x, 2);
        Check.due("a bad shape", x.rowCount(), 0);
        Check.fillVector(x, ONE, ONE);
        Check.due("a full vector", x.rowCount(), 0);
        x.endConstraint();
        Check.due("input", x.rowCount(), 1);
        x.sealInput();
        Check.input(x, 2, 2);
        Check.due("sealed", x.rowCount(), 1);
        x.combineStart();
        Check.due("a sum", x.rowCount(), 1);
        x.combineEnd();
        Check.due("combined", x.rowCount(), 2);
        x.combineEnd();
        Check.due("not begun", x.rowCount(), 2);
        x.divideRound(0);
        Check.due("divided", x.rowCount(), 3);
        x.divideRound(1);
        Check.due("zeros", x.rowCount(), 3);
        x.divideRound(-1);
        Check.due("no such row", x.rowCount(), 3);
        x.divideRound(0);
        Check.due("the last one", x.rowCount(), 4);
        x.divideRound(0);
        x.combineStart();
        x.combineEnd();
        Check.due("no room", x.rowCount(), 4);
    }

    @Says(promise = 12, text = "How many ROWS.")
    static void sixtyRows() {
        CutRows x = new CutRows(1, 60, 4000);
        Check.input(x, 1, 1);
        x.sealInput();
        for (int row = 1; row < 60; row++) {
            x.divideRound(0);
            Check.due("after row " + row, x.rowCount(), row + 1);
        }
        x.divideRound(0);
        Check.due("at most 60", x.rowCount(), 60);
        Check.rowIs("the last one", x, 59, 1, 1);
    }
}
