import java.math.BigInteger;
import java.util.function.Consumer;

/** The boundary cases that promises 13 to 15 name, each sentence with tests of its own. */
public final class PointEdgesTest {
    private static final int MIN = Integer.MIN_VALUE;
    private static final int MAX = Integer.MAX_VALUE;
    private static final BigInteger ONE = BigInteger.ONE;

    public static void main(String[] args) {
        Sayings.run(PointEdgesTest.class);
    }

    /** Rows that hold where all variables are 0, and nowhere else. */
    private static CutRows tightAtZero(int vars) {
        CutRows x = new CutRows(vars, 60, 4000);
        for (int var = 0; var < vars; var++) {
            Check.input(x, Check.unit(vars + 1, var, 1));
            Check.input(x, Check.unit(vars + 1, var, -1));
        }
        return x;
    }

    @Says(promise = 13, text = "The point is 0 in all variables: true.")
    static void zeroInAllVariables() {
        for (int vars = 1; vars <= 6; vars++) {
            CutRows x = tightAtZero(vars);
            Check.due("at 0 already", x.evalStart(), true);
            Check.due("still there", x.evalSatisfied(), CutRows.YES);
            for (int var = 0; var < vars; var++) {
                Check.feed(x, var % 2 == 0 ? 9 : -9);
                x.evalPoint(var);
                Check.due("variable " + var + " away from 0", x.evalSatisfied(), CutRows.NO);
                Check.due("start", x.evalStart(), true);
                Check.due("variable " + var + " is back", x.evalSatisfied(), CutRows.YES);
            }
            for (int var = 0; var < vars; var++) {
                Check.feed(x, 1);
                x.evalPoint(var);
            }
            x.sealInput();
            Check.due("start when sealed", x.evalStart(), true);
            Check.due("all are back", x.evalSatisfied(), CutRows.YES);
        }
    }

    @Says(promise = 13, text = "The point is 0 in all variables: true.")
    static void startChangesNothingElse() {
        for (CutRows x : new CutRows[] {Scenes.fresh(), Scenes.open(), Scenes.finished(), Scenes.summing()}) {
            int[] before = new int[6];
            for (int what = 0; what < 6; what++) {
                before[what] = x.count(what);
            }
            Check.due("start", x.evalStart(), true);
            for (int what = 0; what < 6; what++) {
                Check.due("count " + what, x.count(what), before[what]);
            }
        }
        CutRows x = Scenes.open();
        x.evalStart();
        x.endCoefficient();
        Check.feed(x, 2);
        x.endCoefficient();
        x.endConstraint();
        BigInteger fed = BigInteger.valueOf(4).add(Check.power(31).multiply(BigInteger.valueOf(6)));
        Check.due("the vector stays", Check.number(x, 4, 0), BigInteger.valueOf(-3));
        Check.due("the register's number stays", Check.number(x, 4, 1), fed);
    }

    @Says(promise = 14, text = "A variable of the point is THE REGISTER's NUMBER,")
    static void aVariableIsTheNumber() {
        BigInteger large = Check.power(31 * 20).subtract(ONE);
        BigInteger[] numbers = {ONE, ONE.negate(), BigInteger.ZERO, BigInteger.valueOf(MAX), Check.power(31).negate(), large, large.negate()};
        for (int vars = 1; vars <= 6; vars++) {
            for (int var = 0; var < vars; var += Math.max(1, vars - 1)) {
                for (BigInteger number : numbers) {
                    variableIsDue(vars, var, number);
                }
            }
        }
    }

    /** Rows that hold where this variable is the number and the others are 0, and nowhere else. */
    private static void variableIsDue(int vars, int var, BigInteger number) {
        CutRows x = new CutRows(vars, 60, 4000);
        for (int other = 0; other < vars; other++) {
            for (int sign = -1; sign <= 1; sign += 2) {
                for (int entry = 0; entry < vars; entry++) {
                    Check.feed(x, entry == other ? sign : 0);
                    x.endCoefficient();
                }
                Check.feed(x, other == var ? number.multiply(BigInteger.valueOf(sign)) : BigInteger.ZERO);
                x.endCoefficient();
                x.endConstraint();
            }
        }
        Check.due("rows", x.rowCount(), 2 * vars);
        Check.due("at 0", x.evalSatisfied(), number.signum() == 0 ? CutRows.YES : CutRows.NO);
        Check.feed(x, number);
        Check.due("variable " + var, x.evalPoint(var), true);
        Check.due("variable " + var + " of " + vars + " is " + number, x.evalSatisfied(), CutRows.YES);
        Check.feed(x, 12345);
        Check.due("a number begun since does not move it", x.evalSatisfied(), CutRows.YES);
    }

    @Says(promise = 14, text = "which is FINISHED then.")
    static void finishedByThePoint() {
        CutRows x = tightAtZero(2);
        x.beginNumber(1);
        Check.due("without limbs", x.evalPoint(0), true);
        Check.due("finished", x.count(5), 2);
        Check.due("no limb more", x.limb(1), false);
        Check.due("at 0", x.evalSatisfied(), CutRows.YES);
        Check.feed(x, 3);
        Check.due("open", x.count(5), 1);
        Check.due("first variable", x.evalPoint(0), true);
        Check.due("finished by the first", x.count(5), 2);
        Check.due("a finished number", x.evalPoint(1), true);
        Check.due("still finished", x.count(5), 2);
        Check.due("none of the vector", x.endCoefficient(), false);
        x.sealInput();
        x.combineStart();
        Check.due("its number stays", x.combineAdd(0), CutRows.OK);
        int row = x.combineEnd();
        Check.rowIs("3 times a row", x, row, 3, 0, 0);
    }

    @Says(promise = 14, text = "False if there is no such variable,")
    static void noSuchVariable() {
        for (int var : new int[] {MIN, -2, -1, 2, 3, 5, 6, MAX}) {
            Consumer<CutRows> call = x -> Check.due("variable " + var, x.evalPoint(var), false);
            Same.after("open, variable " + var, Scenes::open, call);
            Same.after("finished, variable " + var, Scenes::finished, call);
            Same.after("summing, variable " + var, Scenes::summing, call);
        }
        for (int vars = 1; vars <= 6; vars++) {
            CutRows x = tightAtZero(vars);
            Check.feed(x, 1);
            Check.due("variable -1 of " + vars, x.evalPoint(-1), false);
            Check.due("variable " + vars + " of " + vars, x.evalPoint(vars), false);
            Check.due("the register stays open", x.count(5), 1);
            Check.due("the point stays", x.evalSatisfied(), CutRows.YES);
            Check.due("the last variable of " + vars, x.evalPoint(vars - 1), true);
            Check.due("it is moved", x.evalSatisfied(), CutRows.NO);
        }
    }

    @Says(promise = 14, text = "or no NUMBER.")
    static void noNumber() {
        for (int var : new int[] {-1, 0, 1, 2}) {
            Same.after("variable " + var, Scenes::fresh, x -> {
                Check.due("variable " + var, x.evalPoint(var), false);
                Check.due("still none", x.count(5), 0);
            });
        }
        CutRows x = Scenes.fresh();
        x.beginNumber(0);
        Check.due("0 is a number", x.evalPoint(0), true);
    }

    @Says(promise = 15, text = "YES if all ROWS of INPUT hold at the point,")
    static void allRowsHold() {
        CutRows x = new CutRows(1, 60, 4000);
        Check.due("no rows", x.evalSatisfied(), CutRows.YES);
        x.sealInput();
        Check.due("no rows when sealed", x.evalSatisfied(), CutRows.YES);
        CutRows zeros = new CutRows(1, 60, 4000);
        Check.input(zeros, 0, 0);
        Check.due("0 is at most 0", zeros.evalSatisfied(), CutRows.YES);
        Check.input(zeros, 0, -1);
        Check.due("0 is above -1", zeros.evalSatisfied(), CutRows.NO);
        CutRows tight = Scenes.withRows();
        Check.due("just at all bounds", tight.evalSatisfied(), CutRows.YES);
        tight.sealInput();
        Check.due("when sealed", tight.evalSatisfied(), CutRows.YES);
    }

    @Says(promise = 15, text = "else NO.")
    static void oneRowThatDoesNotHold() {
        int rows = 5;
        for (int broken = 0; broken < rows; broken++) {
            CutRows x = new CutRows(1, 60, 4000);
            for (int row = 0; row < rows; row++) {
                Check.input(x, 1, row == broken ? 2 : 3);
            }
            Check.moveTo(x, 2);
            Check.due("all hold", x.evalSatisfied(), CutRows.YES);
            Check.moveTo(x, 3);
            Check.due("row " + broken + " alone does not", x.evalSatisfied(), CutRows.NO);
            x.sealInput();
            Check.due("nor when sealed", x.evalSatisfied(), CutRows.NO);
        }
    }

    /** What is made follows from input, but input does not follow from what is made. */
    @Says(promise = 15, text = "all ROWS of INPUT")
    static void inputIsLookedAtAndNotWhatIsMade() {
        CutRows x = new CutRows(1, 60, 4000);
        Check.input(x, 2, 1);
        Check.input(x, -2, 3);
        x.sealInput();
        x.combineStart();
        Check.add(x, 1, 0);
        Check.add(x, 1, 1);
        x.combineEnd();
        Check.rowIs("a row that holds everywhere", x, 2, 0, 4);
        holdsFromMinusOneToZero("with a sum", x);
        x.divideRound(0);
        x.divideRound(1);
        holdsFromMinusOneToZero("with cuts", x);
        CutRows none = new CutRows(1, 60, 4000);
        none.sealInput();
        none.combineStart();
        none.combineEnd();
        Check.moveTo(none, 7);
        Check.due("no input", none.evalSatisfied(), CutRows.YES);
    }

    private static void holdsFromMinusOneToZero(String what, CutRows x) {
        for (int at = -3; at <= 3; at++) {
            Check.moveTo(x, at);
            Check.due(what + ", at " + at, x.evalSatisfied(), at == -1 || at == 0 ? CutRows.YES : CutRows.NO);
        }
    }

    @Says(promise = 15, text = "hold at the point,")
    static void largeNumbers() {
        BigInteger most = Check.power(31 * 20).subtract(ONE);
        CutRows x = new CutRows(2, 60, 4000);
        Check.input(x, most, most.negate(), most);
        moveTo(x, most, most);
        Check.due("they cancel to 0", x.evalSatisfied(), CutRows.YES);
        moveTo(x, most, most.subtract(ONE));
        Check.due("just at the bound", x.evalSatisfied(), CutRows.YES);
        moveTo(x, most, most.subtract(BigInteger.TWO));
        Check.due("above the bound", x.evalSatisfied(), CutRows.NO);
        moveTo(x, most, most.negate());
        Check.due("far above the bound", x.evalSatisfied(), CutRows.NO);
        moveTo(x, most.negate(), most);
        Check.due("far below the bound", x.evalSatisfied(), CutRows.YES);
    }

    private static void moveTo(CutRows x, BigInteger... at) {
        for (int var = 0; var < at.length; var++) {
            Check.feed(x, at[var]);
            x.evalPoint(var);
        }
    }

    @Says(promise = 15, text = "YES if all ROWS of INPUT hold at the point, else NO.")
    static void everyVariableCounts() {
        for (int vars = 1; vars <= 6; vars++) {
            CutRows x = new CutRows(vars, 60, 4000);
            long[] numbers = new long[vars + 1];
            long[] at = new long[vars];
            for (int var = 0; var < vars; var++) {
                numbers[var] = var + 2;
                at[var] = 10 - 3 * var;
                numbers[vars] += numbers[var] * at[var];
            }
            Check.input(x, numbers);
            Check.moveTo(x, at);
            Check.due("at the bound of " + vars, x.evalSatisfied(), CutRows.YES);
            for (int var = 0; var < vars; var++) {
                at[var]++;
                Check.moveTo(x, at);
                Check.due("variable " + var + " one more", x.evalSatisfied(), CutRows.NO);
                at[var] -= 2;
                Check.moveTo(x, at);
                Check.due("variable " + var + " one less", x.evalSatisfied(), CutRows.YES);
                at[var]++;
            }
        }
    }
}
