import java.math.BigInteger;
import java.util.function.Consumer;
import java.util.function.Supplier;

/** The boundary cases that the section 'Terms' names, each sentence with tests of its own. */
public final class TermsEdgesTest {
    private static final int[] EXTREMES = {Integer.MIN_VALUE, Integer.MIN_VALUE + 1, -61, -3, -2, -1, 0, 1, 2, 5, 6, 7,
        59, 60, 61, 4000, Integer.MAX_VALUE - 1, Integer.MAX_VALUE};

    public static void main(String[] args) {
        Sayings.run(TermsEdgesTest.class);
    }

    @Says(promise = 0, text = "A ROW is as many COEFFICIENTS as there are variables (0 first), and a BOUND:")
    static void coefficientsAndThenTheBound() {
        for (int vars = 1; vars <= 6; vars++) {
            CutRows x = new CutRows(vars, 2, 90);
            long[] numbers = new long[vars + 1];
            for (int entry = 0; entry <= vars; entry++) {
                numbers[entry] = entry * entry - 10;
            }
            Check.due("row of " + vars + " variables", Check.input(x, numbers), 0);
            Check.rowIs("row of " + vars + " variables", x, 0, numbers);
            Check.cellThrows(x, 0, vars + 1, 0);
        }
    }

    @Says(promise = 0, text = "the sum of COEFFICIENTS times variables is at most the BOUND.")
    static void atMostTheBound() {
        CutRows x = new CutRows(2, 2, 90);
        Check.input(x, 3, -2, 7);
        Check.moveTo(x, 3, 1);
        Check.due("just at the bound", x.evalSatisfied(), CutRows.YES);
        Check.moveTo(x, 4, 2);
        Check.due("one above the bound", x.evalSatisfied(), CutRows.NO);
        Check.moveTo(x, 2, 0);
        Check.due("one below the bound", x.evalSatisfied(), CutRows.YES);
        Check.moveTo(x, 0, 3);
        Check.due("far below the bound", x.evalSatisfied(), CutRows.YES);
        Check.moveTo(x, 3, 0);
        Check.due("two above the bound", x.evalSatisfied(), CutRows.NO);
    }

    @Says(promise = 0, text = "ROWS are numbered from 0 on;")
    static void numberedFromZero() {
        CutRows x = new CutRows(1, 60, 4000);
        for (int row = 0; row < 3; row++) {
            Check.due("input", Check.input(x, 2, row), row);
        }
        x.sealInput();
        x.combineStart();
        Check.due("combined", x.combineEnd(), 3);
        Check.due("divided", x.divideRound(0), 4);
        CutRows made = new CutRows(1, 60, 4000);
        made.sealInput();
        made.combineStart();
        Check.due("combined first of all", made.combineEnd(), 0);
        Check.due("its sign", made.cell(0, 0, -1), 0);
    }

    @Says(promise = 0, text = "there are at most as many as told.")
    static void atMostAsManyRows() {
        for (int told : new int[] {1, 2, 59, 60}) {
            CutRows x = new CutRows(1, told, 4000);
            for (int row = 0; row < told; row++) {
                Check.due("row " + row + " of " + told, Check.input(x, 1, 0), row);
            }
            Check.due("one more than " + told, Check.input(x, 1, 0), CutRows.NOROOM);
            Check.due("rows", x.rowCount(), told);
        }
        CutRows mixed = new CutRows(1, 3, 4000);
        Check.input(mixed, 1, 0);
        mixed.sealInput();
        mixed.divideRound(0);
        mixed.combineStart();
        Check.due("the last one", mixed.combineEnd(), 2);
        Check.due("one more divided", mixed.divideRound(0), CutRows.NOROOM);
        mixed.combineStart();
        Check.due("one more combined", mixed.combineEnd(), CutRows.NOROOM);
    }

    @Says(promise = 0, text = "A NUMBER takes 1 cell, and one for each of its LIMBS: digits of 31 bits, the lowest first,")
    static void cellsOfANumber() {
        BigInteger[] numbers = {BigInteger.ONE, BigInteger.valueOf(Integer.MAX_VALUE), Check.power(31),
            Check.power(62).subtract(BigInteger.ONE), Check.power(62), Check.power(31 * 20).subtract(BigInteger.ONE)};
        int[] limbs = {1, 1, 2, 2, 3, 20};
        for (int i = 0; i < numbers.length; i++) {
            for (BigInteger number : new BigInteger[] {numbers[i], numbers[i].negate()}) {
                CutRows x = new CutRows(1, 1, 100);
                Check.input(x, number, BigInteger.ZERO);
                Check.due("limbs of " + number, x.cell(0, 0, -2), limbs[i]);
                Check.due("cells left by " + number, x.count(0), 100 - 2 - limbs[i]);
            }
        }
        CutRows x = new CutRows(1, 1, 100);
        Check.input(x, Check.power(31).multiply(BigInteger.valueOf(5)).add(BigInteger.valueOf(9)), BigInteger.ZERO);
        Check.due("the lowest", x.cell(0, 0, 0), 9);
        Check.due("the highest", x.cell(0, 0, 1), 5);
    }

    @Says(promise = 0, text = "as few as it needs (none for 0);")
    static void asFewLimbsAsNeeded() {
        int[][] fed = {{}, {0}, {0, 0, 0}, {5, 0}, {5, 0, 0, 0}, {0, 5}, {0, 5, 0}, {1, 0, 1}};
        int[] needed = {0, 0, 0, 1, 1, 2, 2, 3};
        for (int i = 0; i < fed.length; i++) {
            for (int sign = -1; sign <= 1; sign++) {
                CutRows x = new CutRows(1, 1, 100);
                Check.feedLimbs(x, sign, fed[i]);
                x.endCoefficient();
                x.beginNumber(1);
                x.endCoefficient();
                x.endConstraint();
                int limbs = sign == 0 ? 0 : needed[i];
                Check.due("limbs of case " + i + ", sign " + sign, x.cell(0, 0, -2), limbs);
                Check.due("sign of case " + i, x.cell(0, 0, -1), limbs == 0 ? 0 : sign);
                Check.due("cells left by case " + i, x.count(0), 100 - 2 - limbs);
            }
        }
        twentyLimbsOfZero();
        madeNumbersShrink();
    }

    private static void twentyLimbsOfZero() {
        CutRows x = new CutRows(1, 1, 2);
        Check.feedLimbs(x, -1, new int[20]);
        x.endCoefficient();
        Check.feedLimbs(x, 1, new int[20]);
        x.endCoefficient();
        Check.due("twenty limbs of 0 need none", x.endConstraint(), 0);
        Check.due("no cell is left", x.count(0), 0);
    }

    private static void madeNumbersShrink() {
        CutRows x = new CutRows(1, 9, 100);
        Check.input(x, Check.power(62), Check.power(31));
        Check.input(x, Check.power(62).negate(), BigInteger.ONE.negate());
        x.sealInput();
        x.combineStart();
        Check.add(x, 1, 0);
        Check.add(x, 1, 1);
        int left = x.count(0);
        Check.due("the sum", x.combineEnd(), 2);
        Check.due("limbs of a coefficient that came to 0", x.cell(2, 0, -2), 0);
        Check.due("limbs of 2^31 - 1", x.cell(2, 1, -2), 1);
        Check.due("cells of the sum", left - x.count(0), 3);
        left = x.count(0);
        Check.due("the quotient", x.divideRound(0), 3);
        Check.due("limbs of a quotient of 1", x.cell(3, 0, -2), 1);
        Check.due("limbs of a bound of 0", x.cell(3, 1, -2), 0);
        Check.due("cells of the quotient", left - x.count(0), 3);
    }

    @Says(promise = 0, text = "a ROW takes those of its NUMBERS; THE ARENA has as many cells as told for all ROWS.")
    static void cellsForAllRows() {
        CutRows x = new CutRows(2, 9, 6 + 5 + 4 + 3);
        Check.input(x, 6, 6, 6);
        Check.due("after the first", x.count(0), 12);
        Check.input(x, 6, 0, -6);
        Check.due("after the second", x.count(0), 7);
        x.sealInput();
        x.combineStart();
        Check.due("a sum takes none", x.count(0), 7);
        x.combineEnd();
        Check.due("after a sum of 0", x.count(0), 4);
        Check.due("five cells", x.divideRound(1), CutRows.NOROOM);
        CutRows last = new CutRows(1, 9, 8);
        Check.input(last, 9, 9);
        last.sealInput();
        Check.due("just as many", last.divideRound(0), 1);
        Check.due("none left", last.count(0), 0);
        last.combineStart();
        Check.due("not even a row of 0", last.combineEnd(), CutRows.NOROOM);
    }

    @Says(promise = 0, text = "THE REGISTER has a NUMBER, or none (at first):")
    static void noNumberAtFirst() {
        CutRows x = new CutRows(1, 9, 90);
        Check.due("at first", x.count(5), 0);
        Check.due("limb", x.limb(0), false);
        Check.due("endCoefficient", x.endCoefficient(), false);
        Check.due("evalPoint", x.evalPoint(0), false);
        x.sealInput();
        x.combineStart();
        x.combineEnd();
        x.combineStart();
        Check.due("combineAdd", x.combineAdd(0), CutRows.NEGATIVE);
        Check.due("none after all that", x.count(5), 0);
    }

    @Says(promise = 0, text = "OPEN (LIMBS may be appended) or FINISHED.")
    static void openOrFinished() {
        CutRows x = new CutRows(1, 9, 90);
        x.beginNumber(1);
        Check.due("open", x.count(5), 1);
        Check.due("appended", x.limb(3), true);
        Check.due("open with a limb", x.count(5), 1);
        x.endCoefficient();
        Check.due("finished", x.count(5), 2);
        Check.due("not appended", x.limb(4), false);
        Check.due("still finished", x.count(5), 2);
        x.beginNumber(1);
        x.endCoefficient();
        x.endConstraint();
        Check.rowIs("the number has the limbs appended", x, 0, 3, 0);
    }

    @Says(promise = 0, text = "THE VECTOR has up to one NUMBER more than there are variables.")
    static void vectorHasOneMore() {
        for (int vars = 1; vars <= 6; vars++) {
            CutRows x = new CutRows(vars, 9, 90);
            for (int entry = 0; entry <= vars; entry++) {
                x.beginNumber(1);
                Check.due("number " + entry + " of " + vars + " variables", x.endCoefficient(), true);
                Check.due("numbers", x.count(2), entry + 1);
            }
            x.beginNumber(1);
            Check.due("one too many for " + vars + " variables", x.endCoefficient(), false);
            Check.due("numbers at most", x.count(2), vars + 1);
        }
    }

    @Says(promise = 0, text = "Until it is SEALED, ROWS are INPUT.")
    static void inputUntilSealed() {
        CutRows x = new CutRows(1, 9, 90);
        Check.input(x, 1, 0);
        Check.input(x, 2, 0);
        Check.due("input before", x.count(1), 2);
        x.sealInput();
        Check.due("input when sealed", x.count(1), 2);
        x.combineStart();
        x.combineEnd();
        x.divideRound(0);
        Check.input(x, 3, 0);
        Check.due("input after that", x.count(1), 2);
        Check.due("rows after that", x.rowCount(), 4);
    }

    @Says(promise = 0, text = "What would be a ROW has NO ROOM if there are as many ROWS as told,")
    static void noRoomForRows() {
        CutRows input = Scenes.noRowsLeft();
        Check.due("input", Check.input(input, 0, 0, 0), CutRows.NOROOM);
        CutRows sum = Scenes.noRowsLeft();
        sum.sealInput();
        sum.combineStart();
        Check.due("combined", sum.combineEnd(), CutRows.NOROOM);
        Check.due("divided", sum.divideRound(0), CutRows.NOROOM);
    }

    @Says(promise = 0, text = "or the cells left are too few;")
    static void noRoomForCells() {
        CutRows input = Scenes.threeCellsLeft();
        Check.due("input of four cells", Check.input(input, 0, 0, 1), CutRows.NOROOM);
        Check.due("input of three cells", Check.input(input, 0, 0, 0), 2);
        CutRows sum = Scenes.threeCellsLeft();
        sum.sealInput();
        sum.combineStart();
        Check.add(sum, 1, 1);
        Check.due("combined, four cells", sum.combineEnd(), CutRows.NOROOM);
        Check.due("divided, six cells", sum.divideRound(0), CutRows.NOROOM);
        sum.combineStart();
        Check.due("combined, three cells", sum.combineEnd(), 2);
        dividedJustFits();
    }

    private static void dividedJustFits() {
        for (int left = 3; left <= 4; left++) {
            CutRows x = new CutRows(1, 9, 4 + left);
            Check.input(x, 4, -4);
            x.sealInput();
            Check.due("divided, four cells of " + left, x.divideRound(0), left == 4 ? 1 : CutRows.NOROOM);
        }
    }

    @Says(promise = 0, text = "nothing is stored then.")
    static void nothingIsStored() {
        for (boolean rows : new boolean[] {true, false}) {
            Supplier<CutRows> scene = rows ? Scenes::noRowsLeft : Scenes::threeCellsLeft;
            nothingIsStored("input", scene, x -> Check.input(x, 1, 1, 1));
            nothingIsStored("combined", scene, x -> {
                x.sealInput();
                x.combineStart();
                Check.add(x, 1, 0);
                x.combineEnd();
            });
            nothingIsStored("divided", scene, x -> {
                x.sealInput();
                x.divideRound(0);
            });
        }
    }

    private static void nothingIsStored(String what, Supplier<CutRows> scene, Consumer<CutRows> refused) {
        CutRows x = scene.get();
        int left = x.count(0);
        refused.accept(x);
        Check.due(what + ": cells", x.count(0), left);
        Check.due(what + ": rows", x.rowCount(), 2);
        Check.due(what + ": input", x.count(1), 2);
        Check.due(what + ": refuted", x.refuted(), false);
        Check.rowIs(what + ": first", x, 0, 4, 6, -3);
        Check.rowIs(what + ": second", x, 1, 0, 0, 9);
        Check.cellThrows(x, 2, 0, 0);
    }

    @Says(promise = 0, text = "IllegalArgument is thrown where a number is none of those told here.")
    static void illegalArgument() {
        CutRows x = Scenes.summing();
        for (int told : EXTREMES) {
            if (told < 0 || told > 3) {
                Check.cellThrows(x, told, 0, 0);
            }
            if (told < 0 || told > 2) {
                Check.cellThrows(x, 0, told, 0);
            }
            if (told < -2) {
                Check.cellThrows(x, 0, 0, told);
            }
            if (told < 0 || told > 5) {
                Check.countThrows(x, told);
            }
        }
        otherCallsNeverThrow();
    }

    /** Their numbers have answers of their own, so that nothing may be thrown. */
    private static void otherCallsNeverThrow() {
        for (int told : EXTREMES) {
            for (CutRows x : new CutRows[] {Scenes.fresh(), Scenes.fullVector(), Scenes.summing(), new CutRows(told, told, told)}) {
                boolean began = x.beginNumber(told);
                boolean took = x.limb(told);
                boolean moved = x.evalPoint(told);
                int added = x.combineAdd(told);
                int divided = x.divideRound(told);
                Check.due("beginNumber " + told, began, told >= -1 && told <= 1);
                Check.due("an answer that is told", took || moved || added <= 0 || divided < 60, true);
            }
        }
    }

    @Says(promise = 0, text = "What throws, or answers a code below 0, changes nothing else but what is told.")
    static void whatThrowsChangesNothing() {
        for (int told : new int[] {-3, 6, Integer.MIN_VALUE, Integer.MAX_VALUE}) {
            nothingChanges("count " + told, x -> Check.countThrows(x, told));
            nothingChanges("cell of row " + told, x -> Check.cellThrows(x, told, 0, -1));
            nothingChanges("cell of entry " + told, x -> Check.cellThrows(x, 0, told, -1));
        }
        nothingChanges("cell of what -3", x -> Check.cellThrows(x, 0, 0, -3));
    }

    @Says(promise = 0, text = "What throws, or answers a code below 0, changes nothing else but what is told.")
    static void whatAnswersACodeChangesNothing() {
        nothingChanges("combineAdd of no row", x -> Check.due("code", x.combineAdd(4) < 0, true));
        nothingChanges("divideRound of no row", x -> Check.due("code", x.divideRound(4), CutRows.BADROW));
        nothingChanges("divideRound of row -1", x -> Check.due("code", x.divideRound(-1), CutRows.BADROW));
        Same.after("combineEnd not begun", Scenes::sealedOpen, x -> Check.due("code", x.combineEnd(), CutRows.NOSTART));
        Same.after("combineEnd before it is sealed", Scenes::open, x -> Check.due("code", x.combineEnd(), CutRows.NOSTART));
        Same.after("divideRound before it is sealed", Scenes::open, x -> Check.due("code", x.divideRound(0), CutRows.BADROW));
    }

    private static void nothingChanges(String what, Consumer<CutRows> refused) {
        Same.after(what + ", open", Scenes::open, refused);
        Same.after(what + ", finished", Scenes::finished, refused);
        Same.after(what + ", sealed", Scenes::sealedOpen, refused);
        Same.after(what + ", summing", Scenes::summing, refused);
    }
}
