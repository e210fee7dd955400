import java.math.BigInteger;
import java.util.List;
import java.util.function.Consumer;
import java.util.function.Supplier;

/** The boundary cases that promises 7 to 9 name, each sentence with tests of its own. */
public final class SumEdgesTest {
    private static final int MIN = Integer.MIN_VALUE;
    private static final int MAX = Integer.MAX_VALUE;
    private static final BigInteger ONE = BigInteger.ONE;
    /** The largest number of 48 limbs. */
    private static final BigInteger TOP = Check.power(31 * 48).subtract(ONE);

    public static void main(String[] args) {
        Sayings.run(SumEdgesTest.class);
    }

    @Says(promise = 7, text = "THE SUM is begun, a ROW of 0.")
    static void begunAtZero() {
        CutRows x = new CutRows(2, 9, 90);
        Check.input(x, 1, -2, 3);
        x.sealInput();
        Check.due("first", x.combineStart(), true);
        Check.due("begun", x.count(4), 1);
        Check.due("row", x.combineEnd(), 1);
        Check.rowIs("0", x, 1, 0, 0, 0);
        x.combineStart();
        Check.add(x, 5, 0);
        Check.due("after a sum that was begun", x.combineStart(), true);
        Check.due("begun again", x.count(4), 1);
        x.combineEnd();
        Check.rowIs("0 again", x, 2, 0, 0, 0);
        x.combineStart();
        Check.add(x, 5, 0);
        x.combineEnd();
        x.combineStart();
        x.combineEnd();
        Check.rowIs("0 after a row", x, 4, 0, 0, 0);
        Check.due("without rows", begunWithoutRows(), true);
    }

    private static boolean begunWithoutRows() {
        CutRows x = new CutRows(6, 9, 90);
        x.sealInput();
        return x.combineStart() && x.count(4) == 1 && x.combineEnd() == 0 && x.count(0) == 90 - 7;
    }

    @Says(promise = 7, text = "THE SUM is begun, a ROW of 0.")
    static void beginningChangesNothingElse() {
        CutRows x = Scenes.sealedOpen();
        int[] before = new int[6];
        for (int what = 0; what < 6; what++) {
            before[what] = x.count(what);
        }
        x.combineStart();
        for (int what = 0; what < 6; what++) {
            Check.due("count " + what, x.count(what), what == 4 ? 1 : before[what]);
        }
        Check.due("rows", x.rowCount(), 4);
        Check.due("the point", x.evalSatisfied(), CutRows.YES);
    }

    @Says(promise = 7, text = "False (and nothing changes) before it is SEALED.")
    static void notBeforeItIsSealed() {
        Consumer<CutRows> call = x -> {
            Check.due("before it is sealed", x.combineStart(), false);
            Check.due("not begun", x.count(4), 0);
        };
        Same.after("fresh", Scenes::fresh, call);
        Same.after("open", Scenes::open, call);
        Same.after("finished", Scenes::finished, call);
        Same.after("full", Scenes::fullVector, call);
        CutRows x = Scenes.open();
        x.combineStart();
        x.sealInput();
        Check.due("sealing does not begin it", x.count(4), 0);
        Check.due("it is not begun", x.combineAdd(0), CutRows.NOSTART);
    }

    @Says(promise = 8, text = "THE REGISTER's NUMBER times a ROW is added to THE SUM,")
    static void timesARowIsAdded() {
        CutRows x = new CutRows(2, 20, 400);
        Check.input(x, 2, -3, 4);
        Check.input(x, -4, 3, -9);
        x.sealInput();
        x.combineStart();
        Check.due("0 times", Check.add(x, 0, 0), CutRows.OK);
        Check.due("1 times", Check.add(x, 1, 0), CutRows.OK);
        Check.due("the same number again", x.combineAdd(1), CutRows.OK);
        sumIs("two rows", x, -2, 0, -5);
        x.combineStart();
        Check.add(x, MAX, 0);
        Check.add(x, 2, 0);
        sumIs("carried into a limb more", x, 2 * (MAX + 2L), -3 * (MAX + 2L), 4 * (MAX + 2L));
        x.combineStart();
        Check.add(x, 4, 0);
        Check.add(x, 2, 1);
        sumIs("a coefficient comes to 0", x, 0, -6, -2);
        x.combineStart();
        Check.add(x, 3, x.rowCount() - 1);
        sumIs("the last row, that was made", x, 0, -18, -6);
        x.combineStart();
        x.beginNumber(1);
        Check.due("no limbs", x.combineAdd(0), CutRows.OK);
        Check.feedLimbs(x, -1, 0, 0);
        Check.due("0, its sign told as -1", x.combineAdd(0), CutRows.OK);
        Check.feedLimbs(x, 0, 7);
        Check.due("0, its sign told as 0", x.combineAdd(0), CutRows.OK);
        sumIs("0", x, 0, 0, 0);
    }

    private static void sumIs(String what, CutRows x, long... numbers) {
        int row = x.combineEnd();
        Check.due(what + ": row", row, x.rowCount() - 1);
        Check.rowIs(what, x, row, numbers);
    }

    @Says(promise = 8, text = "THE REGISTER's NUMBER times a ROW is added to THE SUM,")
    static void limbsCarryAndBorrow() {
        BigInteger large = Check.power(31 * 20).subtract(ONE);
        CutRows x = new CutRows(2, 20, 900);
        Check.input(x, large, large.negate(), ONE);
        Check.input(x, ONE, ONE.negate(), ONE.negate());
        Check.input(x, large.negate(), large, large.negate());
        x.sealInput();
        x.combineStart();
        Check.add(x, 1, 0);
        Check.add(x, 1, 1);
        int row = x.combineEnd();
        Check.due("carried through 20 limbs", Check.number(x, row, 0), Check.power(31 * 20));
        Check.due("carried below 0", Check.number(x, row, 1), Check.power(31 * 20).negate());
        Check.due("1 less 1", x.cell(row, 2, -1), 0);
        x.combineStart();
        Check.add(x, 1, row);
        Check.add(x, 1, 2);
        int back = x.combineEnd();
        Check.due("borrowed through 20 limbs", Check.number(x, back, 0), ONE);
        Check.due("borrowed below 0", Check.number(x, back, 1), ONE.negate());
        x.combineStart();
        Check.feed(x, large);
        x.combineAdd(0);
        int square = x.combineEnd();
        Check.due("20 limbs times 20", Check.number(x, square, 0), large.multiply(large));
        Check.due("20 limbs times 20, below 0", Check.number(x, square, 1), large.multiply(large).negate());
        Check.due("40 limbs", x.cell(square, 0, -2), 40);
    }

    @Says(promise = 8, text = "and it is FINISHED: OK;")
    static void finishedByAdding() {
        CutRows x = Scenes.summing();
        Check.due("open", x.count(5), 1);
        Check.due("added", x.combineAdd(0), CutRows.OK);
        Check.due("finished", x.count(5), 2);
        Check.due("no limb more", x.limb(1), false);
        Check.due("added again", x.combineAdd(0), CutRows.OK);
        Check.due("still finished", x.count(5), 2);
        int row = x.combineEnd();
        BigInteger fed = BigInteger.valueOf(4).add(Check.power(31).multiply(BigInteger.valueOf(6)));
        Check.due("twice", Check.number(x, row, 0), fed.shiftLeft(1).add(BigInteger.TWO));
    }

    @Says(promise = 8, text = "or NOSTART (THE SUM is not begun),")
    static void addNotBegun() {
        Consumer<CutRows> call = x -> Check.due("not begun", x.combineAdd(0), CutRows.NOSTART);
        Same.after("before it is sealed", Scenes::open, call);
        Same.after("sealed", Scenes::sealedOpen, call);
        Same.after("fresh", Scenes::fresh, call);
        Same.after("ended", () -> {
            CutRows x = Scenes.summing();
            x.combineEnd();
            return x;
        }, call);
    }

    @Says(promise = 8, text = "BADROW (there is no such ROW),")
    static void addNoSuchRow() {
        for (int row : new int[] {MIN, -2, -1, 4, 5, 20, 60, MAX}) {
            Same.after("row " + row, Scenes::summing, x -> Check.due("row " + row, x.combineAdd(row), CutRows.BADROW));
        }
        Check.due("the last row", Scenes.summing().combineAdd(3), CutRows.OK);
        CutRows none = Scenes.fresh();
        none.sealInput();
        none.combineStart();
        Check.due("no rows at all", Check.add(none, 1, 0), CutRows.BADROW);
    }

    @Says(promise = 8, text = "NEGATIVE (the NUMBER is below 0, or there is none),")
    static void addNegative() {
        int[][] limbs = {{1}, {MAX}, {0, 1}, {0, 0, 0, 5, 0}};
        for (int[] fed : limbs) {
            Same.after("below 0", () -> {
                CutRows x = Scenes.summing();
                Check.feedLimbs(x, -1, fed);
                return x;
            }, x -> Check.due("below 0", x.combineAdd(0), CutRows.NEGATIVE));
        }
        Same.after("below 0 and finished", () -> {
            CutRows x = Scenes.summing();
            Check.feed(x, -5);
            x.endCoefficient();
            return x;
        }, x -> Check.due("below 0 and finished", x.combineAdd(0), CutRows.NEGATIVE));
    }

    @Says(promise = 8, text = "or there is none),")
    static void addNoNumber() {
        Same.after("none", SumEdgesTest::summingWithoutNumber, x -> {
            Check.due("none", x.combineAdd(0), CutRows.NEGATIVE);
            Check.due("still none", x.count(5), 0);
        });
    }

    /** Its one row is a sum of 0, since input needs a number. */
    private static CutRows summingWithoutNumber() {
        CutRows x = Scenes.fresh();
        x.sealInput();
        x.combineStart();
        x.combineEnd();
        x.combineStart();
        return x;
    }

    @Says(promise = 8, text = "NOROOM (a NUMBER of THE SUM would have more than 48 LIMBS),")
    static void addUpToTheTop() {
        for (int entry = 0; entry <= 1; entry++) {
            for (int sign = -1; sign <= 1; sign += 2) {
                topIsReached(entry, sign);
                topIsNotPassed(entry, sign);
            }
        }
    }

    private static void topIsReached(int entry, int sign) {
        CutRows x = new CutRows(1, 9, 900);
        beginSumOf(x, entry, sign, TOP.subtract(ONE));
        Check.due("up to 2^1488 - 1", Check.add(x, 1, 0), CutRows.OK);
        int row = x.combineEnd();
        Check.due("48 limbs", x.cell(row, entry, -2), 48);
        Check.due("the top", Check.number(x, row, entry), TOP.multiply(BigInteger.valueOf(sign)));
    }

    private static void topIsNotPassed(int entry, int sign) {
        CutRows x = new CutRows(1, 9, 900);
        beginSumOf(x, entry, sign, TOP);
        Check.due("0 more", Check.add(x, 0, 0), CutRows.OK);
        Check.due("1 more", Check.add(x, 1, 0), CutRows.NOROOM);
        Check.due("1 less", Check.add(x, 1, 1), CutRows.OK);
        Check.due("1 more again", Check.add(x, 1, 0), CutRows.OK);
        Check.due("2 more", Check.add(x, 2, 0), CutRows.NOROOM);
        Check.feed(x, Check.power(31 * 20).subtract(ONE));
        Check.due("20 limbs more", x.combineAdd(0), CutRows.NOROOM);
        int row = x.combineEnd();
        Check.due("the top", Check.number(x, row, entry), TOP.multiply(BigInteger.valueOf(sign)));
    }

    /** Rows 0 and 1 are 1 and -1 times the sign at the entry, the other one being 0. */
    private static void beginSumOf(CutRows x, int entry, int sign, BigInteger size) {
        int piece = 31 * 19;
        Check.input(x, Check.unit(2, entry, sign));
        Check.input(x, Check.unit(2, entry, -sign));
        x.sealInput();
        Check.feed(x, Check.power(piece));
        x.combineStart();
        x.combineAdd(0);
        x.combineEnd();
        x.combineStart();
        x.combineAdd(2);
        x.combineEnd();
        x.combineStart();
        int[] rows = {0, 2, 3};
        for (int i = 0; i < 3; i++) {
            Check.feed(x, size.shiftRight(i * piece).and(Check.power(piece).subtract(ONE)));
            Check.due("piece " + i, x.combineAdd(rows[i]), CutRows.OK);
        }
    }

    @Says(promise = 8, text = "NOROOM (a NUMBER of THE SUM would have more than 48 LIMBS),")
    static void eachNumberIsLookedAt() {
        int vars = 6;
        for (int entry = 0; entry <= vars; entry++) {
            CutRows x = new CutRows(vars, 9, 900);
            Check.input(x, Check.unit(vars + 1, entry, 1));
            x.sealInput();
            Check.feed(x, Check.power(31 * 19));
            for (int row = 0; row < 2; row++) {
                x.combineStart();
                x.combineAdd(row);
                x.combineEnd();
            }
            x.combineStart();
            Check.feed(x, Check.power(31 * 10));
            Check.due("49 limbs at entry " + entry, x.combineAdd(2), CutRows.NOROOM);
            Check.feed(x, Check.power(31 * 9));
            Check.due("48 limbs at entry " + entry, x.combineAdd(2), CutRows.OK);
        }
    }

    @Says(promise = 8, text = "(a NUMBER of THE SUM would have more than 48 LIMBS)")
    static void theSumIsLookedAtAndNotTheProduct() {
        CutRows x = new CutRows(1, 9, 900);
        Check.input(x, BigInteger.ZERO, Check.power(31 * 19));
        Check.input(x, BigInteger.ZERO, Check.power(31 * 19).negate());
        x.sealInput();
        Check.feed(x, Check.power(31 * 19));
        for (int row = 0; row < 2; row++) {
            x.combineStart();
            x.combineAdd(row);
            x.combineEnd();
        }
        x.combineStart();
        Check.feed(x, Check.power(31 * 9));
        Check.due("2^1457, which has 48 limbs", x.combineAdd(2), CutRows.OK);
        Check.feed(x, Check.power(31 * 10));
        Check.due("-2^1488, which has 49 by itself", x.combineAdd(3), CutRows.OK);
        int row = x.combineEnd();
        Check.due("what they come to", Check.number(x, row, 1), Check.power(31 * 47).subtract(Check.power(31 * 48)));
    }

    @Says(promise = 8, text = "in this order;")
    static void codesOfAddInOrder() {
        for (Supplier<CutRows> notBegun : notBegunScenes()) {
            CutRows x = notBegun.get();
            Check.due("not begun, no row", x.combineAdd(-1), CutRows.NOSTART);
            Check.due("not begun, below 0", Check.add(x, -1, 0), CutRows.NOSTART);
            Check.due("not begun, no row, below 0", Check.add(x, -1, 77), CutRows.NOSTART);
        }
        Check.due("not begun, none", Scenes.fresh().combineAdd(0), CutRows.NOSTART);
        CutRows x = Scenes.summing();
        Check.due("no row, below 0", Check.add(x, -1, 4), CutRows.BADROW);
        CutRows none = Scenes.fresh();
        none.sealInput();
        none.combineStart();
        Check.due("no row, none", none.combineAdd(0), CutRows.BADROW);
        CutRows top = new CutRows(1, 9, 900);
        beginSumOf(top, 0, 1, TOP);
        Check.due("below 0, no room", Check.add(top, -1, 1), CutRows.NEGATIVE);
        Check.due("no row, no room", Check.add(top, 1, 9), CutRows.BADROW);
        Check.due("no room", Check.add(top, 1, 0), CutRows.NOROOM);
        top.combineEnd();
        Check.due("not begun, no room", Check.add(top, 1, 0), CutRows.NOSTART);
    }

    private static List<Supplier<CutRows>> notBegunScenes() {
        return List.of(Scenes::open, Scenes::sealedOpen, Scenes::finished);
    }

    @Says(promise = 8, text = "then nothing changes.")
    static void refusedAddsChangeNothing() {
        Same.after("not begun", Scenes::sealedOpen, x -> x.combineAdd(0));
        Same.after("no row", Scenes::summing, x -> x.combineAdd(4));
        Same.after("below 0", () -> {
            CutRows x = Scenes.summing();
            Check.feed(x, -7);
            return x;
        }, x -> x.combineAdd(0));
        nothingChangesWithoutRoom();
    }

    /** The first coefficient has room and the bound has none: neither may have been added to. */
    private static void nothingChangesWithoutRoom() {
        CutRows x = new CutRows(1, 9, 900);
        Check.input(x, 3, 1);
        x.sealInput();
        Check.feed(x, Check.power(31 * 19));
        for (int row = 0; row < 2; row++) {
            x.combineStart();
            x.combineAdd(row);
            x.combineEnd();
        }
        x.combineStart();
        Check.feed(x, 5);
        x.combineAdd(0);
        Check.feed(x, Check.power(31 * 10).subtract(ONE));
        Check.due("up to 48 limbs at the bound, 49 at the coefficient", x.combineAdd(2), CutRows.NOROOM);
        Check.due("the register stays open", x.count(5), 1);
        Check.due("the sum stays begun", x.count(4), 1);
        Check.due("a limb more", x.limb(1), true);
        Check.due("49 limbs at both", x.combineAdd(2), CutRows.NOROOM);
        Check.due("no row", x.rowCount(), 3);
        int row = x.combineEnd();
        Check.rowIs("the sum", x, row, 15, 5);
        boundWithoutRoom();
    }

    private static void boundWithoutRoom() {
        CutRows x = new CutRows(1, 9, 900);
        Check.input(x, BigInteger.valueOf(-2), Check.power(31 * 19));
        x.sealInput();
        Check.feed(x, Check.power(31 * 19));
        x.combineStart();
        x.combineAdd(0);
        x.combineEnd();
        x.combineStart();
        Check.add(x, 1, 0);
        Check.feed(x, Check.power(31 * 10));
        Check.due("49 limbs at the bound, 30 at the coefficient", x.combineAdd(1), CutRows.NOROOM);
        int row = x.combineEnd();
        Check.due("the coefficient", Check.number(x, row, 0), BigInteger.valueOf(-2));
        Check.due("the bound", Check.number(x, row, 1), Check.power(31 * 19));
    }

    @Says(promise = 9, text = "THE SUM is a ROW: its number;")
    static void sumIsARow() {
        CutRows x = new CutRows(2, 5, 90);
        Check.input(x, 1, -2, 3);
        x.sealInput();
        for (int row = 1; row < 5; row++) {
            x.combineStart();
            Check.add(x, row, 0);
            Check.due("number", x.combineEnd(), row);
            Check.due("rows", x.rowCount(), row + 1);
            Check.due("input", x.count(1), 1);
            Check.due("cells", x.count(0), 90 - 6 * (row + 1));
        }
        for (int row = 1; row < 5; row++) {
            Check.rowIs("row " + row, x, row, row, -2 * row, 3 * row);
        }
    }

    @Says(promise = 9, text = "THE SUM is not begun then.")
    static void notBegunThen() {
        CutRows x = Scenes.summing();
        Check.due("row", x.combineEnd(), 4);
        Check.due("not begun", x.count(4), 0);
        Check.due("no add", x.combineAdd(0), CutRows.NOSTART);
        Check.due("no end", x.combineEnd(), CutRows.NOSTART);
        Check.due("the register stays open", x.count(5), 1);
        Check.due("the vector stays", x.count(2), 1);
        Check.due("rows", x.rowCount(), 5);
        CutRows first = Scenes.fresh();
        first.sealInput();
        first.combineStart();
        Check.due("row 0", first.combineEnd(), 0);
        Check.due("not begun after row 0", first.count(4), 0);
    }

    @Says(promise = 9, text = "Or NOSTART,")
    static void endNotBegun() {
        Consumer<CutRows> call = x -> Check.due("not begun", x.combineEnd(), CutRows.NOSTART);
        Same.after("fresh", Scenes::fresh, call);
        Same.after("before it is sealed", Scenes::open, call);
        Same.after("sealed", Scenes::sealedOpen, call);
        Same.after("ended", () -> {
            CutRows x = Scenes.summing();
            x.combineEnd();
            return x;
        }, call);
        CutRows full = Scenes.noRowsLeft();
        full.sealInput();
        Check.due("not begun, no room", full.combineEnd(), CutRows.NOSTART);
    }

    @Says(promise = 9, text = "NOROOM (THE SUM stays).")
    static void sumStaysWithoutCells() {
        CutRows x = new CutRows(1, 9, 4 + 3 + 3);
        Check.input(x, 2, 7);
        Check.input(x, -1, 0);
        x.sealInput();
        x.combineStart();
        Check.add(x, 1, 0);
        Check.due("four cells of three", x.combineEnd(), CutRows.NOROOM);
        Check.due("begun", x.count(4), 1);
        Check.due("rows", x.rowCount(), 2);
        Check.due("cells", x.count(0), 3);
        Check.due("once more", x.combineEnd(), CutRows.NOROOM);
        Check.due("the register stays finished", x.count(5), 2);
        Check.due("less", Check.add(x, 2, 1), CutRows.OK);
        Check.due("three cells of three", x.combineEnd(), 2);
        Check.rowIs("the sum that stayed", x, 2, 0, 7);
    }

    @Says(promise = 9, text = "NOROOM (THE SUM stays).")
    static void sumStaysWithoutRows() {
        CutRows x = Scenes.noRowsLeft();
        x.sealInput();
        x.combineStart();
        Check.due("a sum of 0", x.combineEnd(), CutRows.NOROOM);
        Check.due("begun", x.count(4), 1);
        Check.due("rows", x.rowCount(), 2);
        Check.due("it can be added to", Check.add(x, 1, 0), CutRows.OK);
        Check.due("still no room", x.combineEnd(), CutRows.NOROOM);
        Check.due("still begun", x.count(4), 1);
        Check.due("it can be begun anew", x.combineStart(), true);
        sumOfTopStaysWithoutRows();
    }

    /** That it stays can be seen by the room for what is added: at the top there is none. */
    private static void sumOfTopStaysWithoutRows() {
        CutRows x = new CutRows(1, 4, 900);
        beginSumOf(x, 1, 1, TOP);
        Check.due("no rows left", x.combineEnd(), CutRows.NOROOM);
        Check.due("1 more than the top", Check.add(x, 1, 0), CutRows.NOROOM);
        Check.due("1 less", Check.add(x, 1, 1), CutRows.OK);
        Check.due("no rows left again", x.combineEnd(), CutRows.NOROOM);
        Check.due("1 more", Check.add(x, 1, 0), CutRows.OK);
        Check.due("1 more than the top again", Check.add(x, 1, 0), CutRows.NOROOM);
    }
}
