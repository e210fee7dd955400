import java.math.BigInteger;

/** For each promise of the document: ordinary inputs, the edges that it names, and wrong inputs. */
public final class PromisesTest {
    private static final BigInteger ONE = BigInteger.ONE;
    private static final BigInteger ZERO = BigInteger.ZERO;

    public static void main(String[] args) {
        promise1();
        promise2();
        promise3();
        promise4();
        promise5();
        promise5NoRoom();
        promise6();
        promise7();
        promise8();
        promise8NoRoom();
        promise9();
        promise10();
        promise10LongDivision();
        promise10FullSize();
        promise11();
        promise12();
        promise13();
        promise14();
        promise15();
        promise16();
        promise17();
        Check.end();
    }

    private static void promise1() {
        CutRows fresh = new CutRows(3, 5, 77);
        Check.due("1: rows", fresh.rowCount(), 0);
        int[] counts = {77, 0, 0, 0, 0, 0};
        for (int what = 0; what < counts.length; what++) {
            Check.due("1: count " + what, fresh.count(what), counts[what]);
        }
        Check.due("1: refuted", fresh.refuted(), false);
        int[][] varsTold = {{1, 1}, {2, 2}, {5, 5}, {6, 6}, {7, 6}, {0, 1}, {-4, 1},
            {Integer.MAX_VALUE, 6}, {Integer.MIN_VALUE, 1}};
        for (int[] told : varsTold) {
            Check.due("1: variables " + told[0], varsOf(new CutRows(told[0], 1, 50)), told[1]);
        }
        int[][] rowsTold = {{1, 1}, {2, 2}, {59, 59}, {60, 60}, {61, 60}, {0, 1}, {-1, 1},
            {Integer.MAX_VALUE, 60}, {Integer.MIN_VALUE, 1}};
        for (int[] told : rowsTold) {
            Check.due("1: rows " + told[0], rowsThatFit(new CutRows(1, told[0], 4000)), told[1]);
        }
        int[][] cellsTold = {{1, 1}, {2, 2}, {3999, 3999}, {4000, 4000}, {4001, 4000}, {0, 1}, {-9, 1},
            {Integer.MAX_VALUE, 4000}, {Integer.MIN_VALUE, 1}};
        for (int[] told : cellsTold) {
            Check.due("1: cells " + told[0], new CutRows(1, 1, told[0]).count(0), told[1]);
        }
        CutRows apart = new CutRows(1, 5, 50);
        Check.input(new CutRows(1, 5, 50), 1, 2);
        Check.due("1: objects are apart", apart.rowCount(), 0);
        pointIsZeroAtFirst();
    }

    private static void pointIsZeroAtFirst() {
        CutRows x = new CutRows(2, 9, 90);
        Check.input(x, 1, 0, 0);
        Check.input(x, -1, 0, 0);
        Check.input(x, 0, 1, 0);
        Check.input(x, 0, -1, 0);
        Check.due("1: the point is 0", x.evalSatisfied(), 1);
    }

    private static int varsOf(CutRows x) {
        int taken = 0;
        while (taken < 100 && x.beginNumber(0) && x.endCoefficient()) {
            taken++;
        }
        return taken - 1;
    }

    private static int rowsThatFit(CutRows x) {
        int rows = 0;
        while (rows < 100 && Check.input(x, 0, 0) >= 0) {
            rows++;
        }
        return rows;
    }

    private static void promise2() {
        CutRows x = new CutRows(1, 9, 90);
        int[] wrongSigns = {2, -2, 100, Integer.MAX_VALUE, Integer.MIN_VALUE};
        for (int sign : wrongSigns) {
            Check.due("2: sign " + sign, x.beginNumber(sign), false);
            Check.due("2: none after sign " + sign, x.count(5), 0);
        }
        Check.due("2: sign 1", x.beginNumber(1), true);
        Check.due("2: open", x.count(5), 1);
        x.limb(6);
        for (int sign : wrongSigns) {
            Check.due("2: sign " + sign, x.beginNumber(sign), false);
        }
        x.limb(1);
        x.endCoefficient();
        Check.due("2: wrong sign at a finished one", x.beginNumber(5), false);
        Check.due("2: it stays finished", x.count(5), 2);
        x.beginNumber(-1);
        x.limb(3);
        Check.due("2: begun anew", x.beginNumber(-1), true);
        x.limb(4);
        x.endCoefficient();
        x.endConstraint();
        Check.due("2: wrong signs change nothing", Check.number(x, 0, 0), Check.power(31).add(BigInteger.valueOf(6)));
        Check.due("2: limbs of the one before are gone", Check.number(x, 0, 1), BigInteger.valueOf(-4));
        x.beginNumber(0);
        x.limb(5);
        x.limb(7);
        x.endCoefficient();
        x.beginNumber(1);
        x.endCoefficient();
        x.endConstraint();
        Check.rowIs("2: sign 0 and no limbs", x, 1, 0, 0);
        Check.due("2: 0 has no sign", x.cell(1, 1, -1), 0);
    }

    private static void promise3() {
        CutRows x = new CutRows(1, 9, 400);
        Check.due("3: none", x.limb(1), false);
        Check.due("3: still none", x.count(5), 0);
        x.beginNumber(1);
        Check.due("3: below 0", x.limb(-1), false);
        Check.due("3: far below 0", x.limb(Integer.MIN_VALUE), false);
        for (int i = 0; i < 20; i++) {
            Check.due("3: limb " + i, x.limb(i == 19 ? Integer.MAX_VALUE : i), true);
        }
        Check.due("3: limb 20", x.limb(0), false);
        x.endCoefficient();
        Check.due("3: finished", x.limb(1), false);
        x.beginNumber(-1);
        for (int i = 0; i < 19; i++) {
            x.limb(0);
        }
        Check.due("3: the 20th above zeros", x.limb(9), true);
        Check.due("3: the 21st above zeros", x.limb(9), false);
        x.endCoefficient();
        x.endConstraint();
        for (int i = 0; i < 20; i++) {
            Check.due("3: limb " + i + " is kept", x.cell(0, 0, i), i == 19 ? Integer.MAX_VALUE : i);
        }
        Check.due("3: zeros are below", Check.number(x, 0, 1), Check.power(31 * 19).multiply(BigInteger.valueOf(-9)));
        zeroLimbsAreFedToo();
    }

    private static void zeroLimbsAreFedToo() {
        CutRows x = new CutRows(1, 9, 400);
        x.beginNumber(0);
        for (int i = 0; i < 20; i++) {
            Check.due("3: limb " + i + " of sign 0", x.limb(5), true);
        }
        Check.due("3: limb 20 of sign 0", x.limb(5), false);
        x.beginNumber(1);
        for (int i = 0; i < 20; i++) {
            Check.due("3: zero limb " + i, x.limb(0), true);
        }
        Check.due("3: zero limb 20", x.limb(0), false);
    }

    private static void promise4() {
        CutRows x = new CutRows(1, 9, 90);
        Check.due("4: none", x.endCoefficient(), false);
        Check.due("4: the vector is empty", x.count(2), 0);
        Check.feed(x, -8);
        Check.due("4: open", x.endCoefficient(), true);
        Check.due("4: one number", x.count(2), 1);
        Check.due("4: it is finished", x.count(5), 2);
        Check.due("4: finished", x.endCoefficient(), false);
        Check.due("4: still one number", x.count(2), 1);
        Check.feed(x, 3);
        Check.due("4: the last one", x.endCoefficient(), true);
        Check.feed(x, 4);
        Check.due("4: full", x.endCoefficient(), false);
        Check.due("4: it stays open", x.count(5), 1);
        Check.due("4: two numbers", x.count(2), 2);
        x.endConstraint();
        Check.rowIs("4: in their order", x, 0, -8, 3);
        Check.due("4: there is room again", x.endCoefficient(), true);
        x.sealInput();
        Check.feed(x, 5);
        Check.due("4: also when sealed", x.endCoefficient(), true);
    }

    private static void promise5() {
        CutRows x = new CutRows(2, 9, 90);
        Check.due("5: empty", x.endConstraint(), CutRows.BADSHAPE);
        Check.due("5: one too few", Check.input(x, 1, 2), CutRows.BADSHAPE);
        Check.due("5: empty after a bad shape", x.count(2), 0);
        Check.due("5: first", Check.input(x, 1, -2, 3), 0);
        Check.due("5: empty after a row", x.count(2), 0);
        Check.due("5: second", Check.input(x, 0, 0, -7), 1);
        Check.rowIs("5: first", x, 0, 1, -2, 3);
        Check.rowIs("5: second", x, 1, 0, 0, -7);
        Check.due("5: input", x.count(1), 2);
        Check.due("5: cells", x.count(0), 90 - 6 - 4);
        Check.fillVector(x, ONE);
        x.sealInput();
        Check.due("5: sealing leaves the vector", x.count(2), 1);
        Check.due("5: sealed goes before the shape", x.endConstraint(), CutRows.SEALED);
        Check.due("5: empty after that", x.count(2), 0);
        Check.due("5: sealed", Check.input(x, 1, 2, 3), CutRows.SEALED);
        Check.due("5: empty after sealed", x.count(2), 0);
        Check.due("5: no more rows", x.rowCount(), 2);
    }

    private static void promise5NoRoom() {
        CutRows rows = new CutRows(1, 2, 90);
        Check.input(rows, 1, 1);
        Check.input(rows, 1, 1);
        Check.due("5: the shape goes before the room", Check.input(rows, 1), CutRows.BADSHAPE);
        Check.due("5: rows", Check.input(rows, 0, 0), CutRows.NOROOM);
        Check.due("5: empty after no room", rows.count(2), 0);
        Check.due("5: cells stay", rows.count(0), 82);
        Check.due("5: input stays", rows.count(1), 2);
        rows.sealInput();
        Check.due("5: sealed goes before the room", Check.input(rows, 0, 0), CutRows.SEALED);
        CutRows cells = new CutRows(1, 9, 9);
        Check.due("5: four cells", Check.input(cells, 1, 1), 0);
        Check.due("5: six cells", Check.input(cells, Check.power(31), Check.power(31)), CutRows.NOROOM);
        Check.due("5: none taken", cells.count(0), 5);
        Check.due("5: five cells", Check.input(cells, Check.power(31), ONE), 1);
        Check.due("5: all taken", cells.count(0), 0);
        Check.due("5: two cells", Check.input(cells, 0, 0), CutRows.NOROOM);
        Check.due("5: the first stays", Check.number(cells, 0, 0), ONE);
        Check.due("5: one cell is too few", Check.input(new CutRows(1, 1, 1), 0, 0), CutRows.NOROOM);
        Check.due("5: two cells are enough", Check.input(new CutRows(1, 1, 2), 0, 0), 0);
    }

    private static void promise6() {
        CutRows x = new CutRows(1, 9, 90);
        Check.due("6: open", x.count(3), 0);
        Check.due("6: first", x.sealInput(), true);
        Check.due("6: sealed", x.count(3), 1);
        Check.due("6: second", x.sealInput(), false);
        Check.due("6: still sealed", x.count(3), 1);
    }

    private static void promise7() {
        CutRows x = new CutRows(1, 9, 90);
        Check.input(x, 2, 3);
        Check.due("7: before", x.combineStart(), false);
        Check.due("7: not begun", x.count(4), 0);
        x.sealInput();
        Check.due("7: sealing does not begin", x.count(4), 0);
        Check.due("7: sealed", x.combineStart(), true);
        Check.due("7: begun", x.count(4), 1);
        Check.add(x, 5, 0);
        Check.due("7: again", x.combineStart(), true);
        Check.due("7: the row", x.combineEnd(), 1);
        Check.rowIs("7: 0 again", x, 1, 0, 0);
        Check.due("7: after a row", x.combineStart(), true);
        x.combineEnd();
        Check.rowIs("7: 0 after a row", x, 2, 0, 0);
    }

    private static void promise8() {
        CutRows x = new CutRows(2, 9, 200);
        Check.input(x, 2, -3, 4);
        Check.input(x, -5, 3, -6);
        Check.due("8: not begun", Check.add(x, 1, 0), CutRows.NOSTART);
        Check.due("8: the register stays open", x.count(5), 1);
        x.sealInput();
        Check.due("8: not begun goes first", Check.add(x, -1, 77), CutRows.NOSTART);
        x.combineStart();
        int[] noRows = {-1, 2, 60, Integer.MAX_VALUE, Integer.MIN_VALUE};
        for (int row : noRows) {
            Check.due("8: no row " + row, Check.add(x, -1, row), CutRows.BADROW);
        }
        Check.due("8: below 0", Check.add(x, -1, 0), CutRows.NEGATIVE);
        Check.due("8: the register stays open below 0", x.count(5), 1);
        Check.due("8: added", Check.add(x, 3, 0), CutRows.OK);
        Check.due("8: the register is finished", x.count(5), 2);
        Check.due("8: the same number again", x.combineAdd(1), CutRows.OK);
        Check.due("8: 0 times", Check.add(x, 0, 0), CutRows.OK);
        x.beginNumber(-1);
        x.limb(0);
        Check.due("8: below 0 times nothing", x.combineAdd(0), CutRows.OK);
        Check.due("8: refused", Check.add(x, -9, 0), CutRows.NEGATIVE);
        x.beginNumber(-1);
        Check.due("8: no limbs behind a number below 0", x.combineAdd(0), CutRows.OK);
        x.combineEnd();
        Check.rowIs("8: the sum", x, 2, -9, 0, -6);
        x.combineStart();
        Check.due("8: a made row", Check.add(x, 2, 2), CutRows.OK);
        x.combineEnd();
        Check.rowIs("8: twice that", x, 3, -18, 0, -12);
        CutRows none = new CutRows(1, 9, 90);
        Check.due("8: no number and not begun", none.combineAdd(0), CutRows.NOSTART);
        none.sealInput();
        none.combineStart();
        Check.due("8: no number and no row", none.combineAdd(0), CutRows.BADROW);
        none.combineEnd();
        none.combineStart();
        Check.due("8: no number", none.combineAdd(0), CutRows.NEGATIVE);
        Check.due("8: still no number", none.count(5), 0);
    }

    /** A variable's row of 48 limbs, and what just fits beside it. */
    private static void promise8NoRoom() {
        CutRows x = new CutRows(1, 9, 4000);
        BigInteger most = Check.power(31 * 20).subtract(ONE);
        Check.input(x, ONE, Check.power(31 * 20 - 1));
        Check.input(x, BigInteger.valueOf(-1), Check.power(31 * 20 - 1).negate());
        x.sealInput();
        int forty = combined(x, 0, Check.power(31 * 20 - 1));
        int full = combined(x, forty, Check.power(31 * 8));
        Check.due("8: 48 limbs", x.cell(full, 1, -2), 48);
        Check.due("8: its number", Check.number(x, full, 1), Check.power(31 * 48 - 2));
        x.combineStart();
        Check.feed(x, 3);
        Check.due("8: up to the top", x.combineAdd(full), CutRows.OK);
        Check.feed(x, 1);
        Check.due("8: over the top", x.combineAdd(full), CutRows.NOROOM);
        Check.due("8: the register stays open without room", x.count(5), 1);
        Check.due("8: the sum stays begun", x.count(4), 1);
        Check.feed(x, most);
        Check.due("8: far over the top", x.combineAdd(full), CutRows.NOROOM);
        int kept = x.combineEnd();
        Check.due("8: the sum is not changed", Check.number(x, kept, 1), Check.power(31 * 48 - 2).multiply(BigInteger.valueOf(3)));
        cancelledProductFits();
    }

    /** The product alone has 49 limbs, but what it comes to in the sum has 48. */
    private static void cancelledProductFits() {
        CutRows x = new CutRows(1, 20, 4000);
        Check.input(x, ZERO, Check.power(31 * 19));
        Check.input(x, ZERO, Check.power(31 * 19).negate());
        x.sealInput();
        int plus = combined(x, 0, Check.power(31 * 19));
        int minus = combined(x, 1, Check.power(31 * 19));
        int high = combined(x, plus, Check.power(31 * 9));
        x.combineStart();
        Check.feed(x, 1);
        Check.due("8: 48 limbs and below", x.combineAdd(high), CutRows.OK);
        Check.feed(x, Check.power(31 * 10));
        Check.due("8: 49 limbs less 48 limbs", x.combineAdd(minus), CutRows.OK);
        int row = x.combineEnd();
        Check.due("8: the sum of them", Check.number(x, row, 1), Check.power(31 * 47).subtract(Check.power(31 * 48)));
    }

    private static int combined(CutRows x, int row, BigInteger times) {
        x.combineStart();
        Check.feed(x, times);
        x.combineAdd(row);
        return x.combineEnd();
    }

    private static void promise9() {
        CutRows x = new CutRows(1, 3, 12);
        Check.input(x, 2, 3);
        Check.due("9: not begun", x.combineEnd(), CutRows.NOSTART);
        x.sealInput();
        Check.due("9: not begun yet", x.combineEnd(), CutRows.NOSTART);
        x.combineStart();
        Check.add(x, 4, 0);
        Check.due("9: a row", x.combineEnd(), 1);
        Check.rowIs("9: a row", x, 1, 8, 12);
        Check.due("9: not input", x.count(1), 1);
        Check.due("9: ended", x.count(4), 0);
        Check.due("9: cells", x.count(0), 4);
        Check.due("9: ended already", x.combineEnd(), CutRows.NOSTART);
        x.combineStart();
        Check.feed(x, Check.power(31));
        x.combineAdd(0);
        Check.due("9: too many cells", x.combineEnd(), CutRows.NOROOM);
        Check.due("9: the sum stays begun", x.count(4), 1);
        Check.due("9: no row", x.rowCount(), 2);
        Check.due("9: cells stay", x.count(0), 4);
        Check.due("9: the sum stays", Check.add(x, 1, 0), CutRows.OK);
        Check.due("9: still too many", x.combineEnd(), CutRows.NOROOM);
        x.combineStart();
        Check.add(x, 1, 0);
        Check.due("9: just enough cells", x.combineEnd(), 2);
        x.combineStart();
        Check.due("9: too many rows", x.combineEnd(), CutRows.NOROOM);
        Check.due("9: the sum stays begun without a row", x.count(4), 1);
        sumIsKeptWithoutRoom();
        CutRows first = new CutRows(1, 9, 90);
        first.sealInput();
        first.combineStart();
        Check.due("9: a made row may be the first", first.combineEnd(), 0);
        Check.due("9: the sum is ended with it", first.count(4), 0);
        Check.due("9: it is not input", first.count(1), 0);
    }

    private static void sumIsKeptWithoutRoom() {
        CutRows x = new CutRows(1, 9, 9);
        Check.input(x, 1, 1);
        Check.input(x, -1, 0);
        x.sealInput();
        x.combineStart();
        Check.add(x, 1, 0);
        Check.due("9: two cells left", x.combineEnd(), CutRows.NOROOM);
        Check.feed(x, 1);
        Check.due("9: less", x.combineAdd(1), CutRows.OK);
        Check.due("9: one too few", x.combineEnd(), CutRows.NOROOM);
        x.combineStart();
        Check.due("9: 0 fits", x.combineEnd(), 2);
    }

    private static void promise10() {
        CutRows x = new CutRows(3, 20, 400);
        Check.input(x, 6, -9, 0, 7);
        Check.input(x, 6, -9, 0, -7);
        Check.input(x, 0, 0, 0, -5);
        Check.input(x, -4, 0, 0, -1);
        Check.input(x, 3, 5, 0, -8);
        Check.input(x, 12, 18, 30, -12);
        Check.due("10: not sealed", x.divideRound(0), CutRows.BADROW);
        x.sealInput();
        int[] noRows = {-1, 6, Integer.MAX_VALUE, Integer.MIN_VALUE};
        for (int row : noRows) {
            Check.due("10: no row " + row, x.divideRound(row), CutRows.BADROW);
        }
        Check.due("10: zeros", x.divideRound(2), CutRows.ZEROROW);
        Check.due("10: above 0", x.divideRound(0), 6);
        Check.rowIs("10: above 0", x, 6, 2, -3, 0, 2);
        Check.due("10: below 0", x.divideRound(1), 7);
        Check.rowIs("10: below 0", x, 7, 2, -3, 0, -3);
        Check.due("10: near 0", x.divideRound(3), 8);
        Check.rowIs("10: near 0", x, 8, -1, 0, 0, -1);
        Check.due("10: nothing divides", x.divideRound(4), 9);
        Check.rowIs("10: nothing divides", x, 9, 3, 5, 0, -8);
        Check.due("10: even", x.divideRound(5), 10);
        Check.rowIs("10: even", x, 10, 2, 3, 5, -2);
        Check.due("10: a made row", x.divideRound(10), 11);
        Check.rowIs("10: the first one stays", x, 0, 6, -9, 0, 7);
        Check.due("10: not input", x.count(1), 6);
        promise10NoRoom();
        promise10LeavesTheSum();
    }

    private static void promise10NoRoom() {
        CutRows x = new CutRows(1, 3, 11);
        Check.input(x, 2, 3);
        Check.input(x, 0, 3);
        x.sealInput();
        Check.due("10: just enough cells", x.divideRound(0), 2);
        Check.due("10: zeros go before the room", x.divideRound(1), CutRows.ZEROROW);
        Check.due("10: no row goes before the room", x.divideRound(3), CutRows.BADROW);
        Check.due("10: too many rows", x.divideRound(0), CutRows.NOROOM);
        CutRows cells = new CutRows(1, 9, 10);
        Check.input(cells, 2, 3);
        Check.input(cells, 2, 1);
        cells.sealInput();
        Check.due("10: too few cells", cells.divideRound(0), CutRows.NOROOM);
        Check.due("10: cells stay", cells.count(0), 2);
        Check.due("10: rows stay", cells.rowCount(), 2);
    }

    private static void promise10LeavesTheSum() {
        CutRows x = new CutRows(1, 9, 90);
        Check.input(x, 4, 6);
        x.sealInput();
        x.combineStart();
        Check.feed(x, 5);
        x.combineAdd(0);
        Check.feed(x, -3);
        x.divideRound(0);
        Check.due("10: the register stays", x.count(5), 1);
        Check.due("10: the sum stays begun", x.count(4), 1);
        x.combineEnd();
        Check.rowIs("10: the sum stays", x, 2, 20, 30);
    }

    /** Digits for which Knuth's algorithm D guesses too high, once, twice, or until it puts back. */
    private static void promise10LongDivision() {
        int half = 1 << 30;
        int most = Integer.MAX_VALUE;
        int[][][] pairs = {
            {{3, 0, half}, {1, 0, 1 << 28}},
            {{0, 0, half, half - 1}, {1, 0, half}},
            {{0, most - 1, half}, {most, half}},
            {{0, 0, 0, half, half - 1}, {1, 0, 0, half}},
            {{0, most - 1, 0, half}, {most, 0, half}},
            {{0, 0, half - 1}, {most, half}},
            {{0, 0, 0, half - 1}, {most, most, half}},
            {{0, 0, half}, {most, half}},
            {{0, 0, most, half}, {0, most, half}},
            {{most, most, most, most}, {most, most}},
            {{0, 0, 0, 1}, {most, most}},
            {{0, 0, 1, 1}, {1, 1}},
            {{most, most - 1, most}, {most, most}},
            {{5, 0, most, half}, {most, most, half}},
            {{7, 7, 7}, {7, 7, 7}},
            {{6, 7, 7}, {7, 7, 7}},
            {{0, 1}, {1}},
            {{0, 1}, {most}},
            {{most}, {0, 1}},
        };
        for (int[][] pair : pairs) {
            BigInteger number = whole(pair[0]);
            BigInteger divisor = whole(pair[1]);
            quotientIsDue(number, divisor);
            quotientIsDue(number.negate(), divisor);
            quotientIsDue(number, divisor.negate());
            quotientIsDue(number.negate(), divisor.negate());
            greatestIsDue(number, divisor);
            greatestIsDue(divisor, number);
        }
        exactMultiplesAreDue(whole(new int[] {most, 0, half}), whole(new int[] {most, most - 1}));
        exactMultiplesAreDue(whole(new int[] {most, 0, 0, half}), whole(new int[] {most, most, most - 1}));
        exactMultiplesAreDue(whole(new int[] {most, half}), whole(new int[] {0, most - 3, 1}));
    }

    /** After a digit that was put back, a wrong limb that is left spoils all that comes behind it. */
    private static void exactMultiplesAreDue(BigInteger divisor, BigInteger times) {
        BigInteger number = divisor.multiply(times);
        quotientIsDue(number, divisor);
        quotientIsDue(number.negate(), divisor);
        quotientIsDue(number.add(ONE), divisor);
        quotientIsDue(number.subtract(ONE), divisor);
        quotientIsDue(number.add(ONE).negate(), divisor);
        greatestIsDue(number, divisor);
        greatestIsDue(divisor, number.add(divisor));
    }

    private static BigInteger whole(int[] limbs) {
        BigInteger sum = ZERO;
        for (int i = limbs.length - 1; i >= 0; i--) {
            sum = sum.shiftLeft(31).add(BigInteger.valueOf(limbs[i]));
        }
        return sum;
    }

    private static void quotientIsDue(BigInteger bound, BigInteger coefficient) {
        CutRows x = new CutRows(1, 2, 90);
        Check.input(x, coefficient, bound);
        x.sealInput();
        Check.due("10: new row", x.divideRound(0), 1);
        Check.due("10: its coefficient", x.cell(1, 0, -1), coefficient.signum());
        Check.due("10: its size", x.cell(1, 0, -2), 1);
        Check.due("10: its limb", x.cell(1, 0, 0), 1);
        BigInteger[] parts = bound.divideAndRemainder(coefficient.abs());
        BigInteger floor = parts[1].signum() < 0 ? parts[0].subtract(ONE) : parts[0];
        Check.due("10: " + bound + " by " + coefficient, Check.number(x, 1, 1), floor);
    }

    private static void greatestIsDue(BigInteger a, BigInteger b) {
        CutRows x = new CutRows(2, 2, 90);
        Check.input(x, a, b, a);
        x.sealInput();
        Check.due("10: new row of two", x.divideRound(0), 1);
        BigInteger greatest = a.gcd(b);
        Check.due("10: first of two", Check.number(x, 1, 0), a.divide(greatest));
        Check.due("10: second of two", Check.number(x, 1, 1), b.divide(greatest));
    }

    /** Rows of 48 limbs; neighbours among Fibonacci's numbers take Euclid's way the most steps. */
    private static void promise10FullSize() {
        BigInteger small = ZERO;
        BigInteger large = ONE;
        while (large.add(small).bitLength() <= 31 * 48) {
            BigInteger next = large.add(small);
            small = large;
            large = next;
        }
        BigInteger most = Check.power(31 * 48).subtract(ONE);
        dividedFullSizeIsDue(small, large.negate(), most.negate());
        dividedFullSizeIsDue(most, most.negate(), most.subtract(ONE).negate());
        dividedFullSizeIsDue(Check.power(31 * 47), Check.power(31 * 46 + 3), most.negate());
        BigInteger divisor = Check.power(31 * 24).subtract(BigInteger.valueOf(5));
        BigInteger times = Check.power(31 * 24).subtract(BigInteger.valueOf(77));
        dividedFullSizeIsDue(divisor.multiply(times), divisor.multiply(times.subtract(ONE)).negate(), most);
        dividedFullSizeIsDue(divisor, ZERO, divisor.multiply(times).negate());
        dividedFullSizeIsDue(divisor, divisor.negate(), divisor.multiply(times).add(ONE).negate());
        dividedFullSizeIsDue(BigInteger.valueOf(6), BigInteger.valueOf(-9), most.negate());
    }

    /** Building takes most of the calls that are promised, so one object is looked at and one divided. */
    private static void dividedFullSizeIsDue(BigInteger a, BigInteger b, BigInteger bound) {
        CutRows built = new CutRows(2, 20, 4000);
        int row = longRow(built, a, b, bound);
        Check.due("10: first as built", Check.number(built, row, 0), a);
        Check.due("10: second as built", Check.number(built, row, 1), b);
        Check.due("10: bound as built", Check.number(built, row, 2), bound);
        CutRows x = new CutRows(2, 20, 4000);
        longRow(x, a, b, bound);
        BigInteger greatest = a.gcd(b);
        Check.due("10: new long row", x.divideRound(row), row + 1);
        Check.due("10: first, long", Check.number(x, row + 1, 0), a.divide(greatest));
        Check.due("10: second, long", Check.number(x, row + 1, 1), b.divide(greatest));
        BigInteger floor = bound.subtract(bound.mod(greatest)).divide(greatest);
        Check.due("10: bound, long", Check.number(x, row + 1, 2), floor);
    }

    /** Three numbers of up to 48 limbs, put together from pieces of 19 limbs. */
    private static int longRow(CutRows x, BigInteger... numbers) {
        int piece = 31 * 19;
        int width = numbers.length;
        for (int i = 0; i < width; i++) {
            long[] unit = new long[width];
            unit[i] = numbers[i].signum() < 0 ? -1 : 1;
            Check.input(x, unit);
        }
        x.sealInput();
        Check.feed(x, Check.power(piece));
        for (int row = 0; row < 2 * width; row++) {
            x.combineStart();
            x.combineAdd(row);
            x.combineEnd();
        }
        x.combineStart();
        for (int row = 0; row < 3 * width; row++) {
            BigInteger above = numbers[row % width].abs().shiftRight(row / width * piece);
            Check.feed(x, above.and(Check.power(piece).subtract(ONE)));
            x.combineAdd(row);
        }
        return x.combineEnd();
    }

    private static void promise11() {
        CutRows x = new CutRows(2, 20, 200);
        Check.input(x, 2, 2, 1);
        Check.input(x, -2, -2, -1);
        Check.input(x, 0, 0, -4);
        Check.due("11: input does not count", x.refuted(), false);
        x.sealInput();
        Check.due("11: nor when sealed", x.refuted(), false);
        Check.due("11: no row is made of zeros", x.divideRound(2), CutRows.ZEROROW);
        x.combineStart();
        Check.add(x, 1, 0);
        Check.add(x, 1, 1);
        x.combineEnd();
        Check.due("11: a bound of 0", x.refuted(), false);
        x.combineStart();
        Check.add(x, 1, 1);
        x.combineEnd();
        Check.due("11: coefficients", x.refuted(), false);
        x.combineStart();
        Check.add(x, 1, 2);
        Check.due("11: a sum that is no row", x.refuted(), false);
        x.combineEnd();
        Check.due("11: made", x.refuted(), true);
        x.combineStart();
        x.combineEnd();
        Check.due("11: it stays", x.refuted(), true);
        CutRows above = new CutRows(1, 20, 200);
        Check.input(above, 0, 4);
        above.sealInput();
        above.combineStart();
        Check.add(above, 1, 0);
        above.combineEnd();
        Check.due("11: a bound above 0", above.refuted(), false);
        lastCoefficientCounts();
        rowWithoutRoomDoesNotRefute();
    }

    private static void lastCoefficientCounts() {
        CutRows x = new CutRows(2, 20, 200);
        Check.input(x, 0, 1, -4);
        x.sealInput();
        x.divideRound(0);
        x.combineStart();
        Check.add(x, 1, 0);
        x.combineEnd();
        Check.due("11: only the last is not 0", x.refuted(), false);
    }

    private static void rowWithoutRoomDoesNotRefute() {
        CutRows x = new CutRows(1, 1, 200);
        Check.input(x, 0, -4);
        x.sealInput();
        x.combineStart();
        Check.add(x, 1, 0);
        Check.due("11: no room", x.combineEnd(), CutRows.NOROOM);
        Check.due("11: not made", x.refuted(), false);
    }

    private static void promise12() {
        CutRows x = new CutRows(1, 4, 200);
        Check.due("12: none", x.rowCount(), 0);
        Check.input(x, 2, 2);
        Check.due("12: input", x.rowCount(), 1);
        Check.input(x, 2);
        Check.due("12: a bad shape", x.rowCount(), 1);
        x.sealInput();
        x.combineStart();
        Check.due("12: begun", x.rowCount(), 1);
        x.combineEnd();
        Check.due("12: combined", x.rowCount(), 2);
        x.divideRound(0);
        Check.due("12: divided", x.rowCount(), 3);
        x.divideRound(0);
        x.divideRound(0);
        Check.due("12: no more than told", x.rowCount(), 4);
    }

    private static void promise13() {
        CutRows x = new CutRows(2, 9, 90);
        Check.input(x, 1, 0, 0);
        Check.input(x, 0, 1, 0);
        Check.feed(x, 1);
        x.evalPoint(0);
        Check.due("13: away from 0", x.evalSatisfied(), CutRows.NO);
        Check.due("13: answer", x.evalStart(), true);
        Check.due("13: at 0", x.evalSatisfied(), CutRows.YES);
        x.evalPoint(1);
        Check.due("13: the last variable", x.evalSatisfied(), CutRows.NO);
        Check.due("13: again", x.evalStart(), true);
        Check.due("13: at 0 again", x.evalSatisfied(), CutRows.YES);
        Check.due("13: the register stays", x.count(5), 2);
    }

    private static void promise14() {
        CutRows x = new CutRows(2, 9, 90);
        Check.due("14: no number", x.evalPoint(0), false);
        Check.due("14: still no number", x.count(5), 0);
        Check.input(x, 1, 0, 4);
        Check.input(x, 0, 1, -4);
        Check.feed(x, -4);
        int[] noVars = {-1, 2, Integer.MAX_VALUE, Integer.MIN_VALUE};
        for (int var : noVars) {
            Check.due("14: no variable " + var, x.evalPoint(var), false);
        }
        Check.due("14: the register stays open", x.count(5), 1);
        Check.due("14: the point stays", x.evalSatisfied(), CutRows.NO);
        Check.due("14: last variable", x.evalPoint(1), true);
        Check.due("14: the register is finished", x.count(5), 2);
        Check.due("14: it holds", x.evalSatisfied(), CutRows.YES);
        Check.feed(x, 4);
        Check.due("14: the point is a copy", x.evalSatisfied(), CutRows.YES);
        x.evalPoint(0);
        Check.due("14: it still holds", x.evalSatisfied(), CutRows.YES);
        Check.due("14: a finished number", x.evalPoint(1), true);
        Check.due("14: it holds no more", x.evalSatisfied(), CutRows.NO);
        x.beginNumber(1);
        Check.due("14: an open one without limbs", x.evalPoint(0), true);
    }

    private static void promise15() {
        CutRows x = new CutRows(2, 20, 900);
        Check.due("15: no rows", x.evalSatisfied(), CutRows.YES);
        Check.input(x, 3, -2, 5);
        Check.due("15: not sealed", x.evalSatisfied(), CutRows.YES);
        int[][] points = {{1, -1, 1}, {2, 0, 0}, {2, 1, 1}, {-9, 0, 1}, {3, 2, 1}, {3, 1, 0}};
        for (int[] p : points) {
            moveTo(x, BigInteger.valueOf(p[0]), BigInteger.valueOf(p[1]));
            Check.due("15: at " + p[0] + ", " + p[1], x.evalSatisfied(), p[2]);
        }
        Check.input(x, -1, 0, -1);
        moveTo(x, ONE, ZERO);
        Check.due("15: both hold", x.evalSatisfied(), CutRows.YES);
        moveTo(x, ZERO, ZERO);
        Check.due("15: the second does not", x.evalSatisfied(), CutRows.NO);
        moveTo(x, BigInteger.valueOf(9), ZERO);
        Check.due("15: the first does not", x.evalSatisfied(), CutRows.NO);
        madeRowsAreNotLookedAt();
        largeNumbersAtThePoint();
    }

    private static void moveTo(CutRows x, BigInteger... at) {
        for (int var = 0; var < at.length; var++) {
            Check.feed(x, at[var]);
            x.evalPoint(var);
        }
    }

    private static void madeRowsAreNotLookedAt() {
        CutRows x = new CutRows(1, 20, 900);
        Check.input(x, 2, 1);
        Check.input(x, -2, 1);
        x.sealInput();
        x.combineStart();
        Check.add(x, 1, 0);
        x.combineEnd();
        x.divideRound(0);
        Check.due("15: input alone", x.evalSatisfied(), CutRows.YES);
        moveTo(x, ONE);
        Check.due("15: input when sealed", x.evalSatisfied(), CutRows.NO);
    }

    private static void largeNumbersAtThePoint() {
        BigInteger most = Check.power(31 * 20).subtract(ONE);
        Check.due("15: far above", atLargePoint(most, most), CutRows.NO);
        Check.due("15: they cancel", atLargePoint(most.negate(), most.negate()), CutRows.YES);
        Check.due("15: just at the bound", atLargePoint(most.negate(), most.negate().add(ONE)), CutRows.YES);
        Check.due("15: just above it", atLargePoint(most.negate(), most.negate().add(BigInteger.TWO)), CutRows.NO);
    }

    /** An object for each point, since a few of them take all the calls that are promised. */
    private static int atLargePoint(BigInteger odd, BigInteger last) {
        BigInteger most = Check.power(31 * 20).subtract(ONE);
        CutRows x = new CutRows(6, 20, 900);
        Check.input(x, most, most, most, most, most, most, most);
        moveTo(x, most, odd, most, odd, most, last);
        return x.evalSatisfied();
    }

    private static void promise16() {
        CutRows x = new CutRows(2, 9, 90);
        Check.cellThrows(x, 0, 0, 0);
        Check.input(x, Check.power(31).multiply(BigInteger.valueOf(5)).add(BigInteger.valueOf(3)).negate(), ZERO, BigInteger.valueOf(9));
        int[][] dues = {{0, -1, -1}, {0, -2, 2}, {0, 0, 3}, {0, 1, 5}, {0, 2, 0}, {0, Integer.MAX_VALUE, 0},
            {1, -1, 0}, {1, -2, 0}, {1, 0, 0}, {2, -1, 1}, {2, -2, 1}, {2, 0, 9}, {2, 1, 0}, {2, 48, 0}};
        for (int[] due : dues) {
            Check.due("16: cell " + due[0] + ", " + due[1], x.cell(0, due[0], due[1]), due[2]);
        }
        int[][] wrongs = {{-1, 0, 0}, {1, 0, 0}, {Integer.MAX_VALUE, 0, 0}, {Integer.MIN_VALUE, 0, 0},
            {0, -1, 0}, {0, 3, 0}, {0, Integer.MAX_VALUE, 0}, {0, Integer.MIN_VALUE, 0},
            {0, 0, -3}, {0, 0, Integer.MIN_VALUE}};
        for (int[] wrong : wrongs) {
            Check.cellThrows(x, wrong[0], wrong[1], wrong[2]);
        }
        Check.due("16: nothing is changed", x.rowCount(), 1);
    }

    private static void promise17() {
        CutRows x = new CutRows(1, 9, 90);
        int[] wrongs = {-1, 6, 7, Integer.MAX_VALUE, Integer.MIN_VALUE};
        for (int what : wrongs) {
            Check.countThrows(x, what);
        }
        Check.input(x, 3, 0);
        Check.input(x, Check.power(62), BigInteger.valueOf(-1));
        Check.due("17: cells left", x.count(0), 90 - 3 - 6);
        Check.due("17: input", x.count(1), 2);
        Check.feed(x, 4);
        Check.due("17: open", x.count(5), 1);
        x.endCoefficient();
        Check.due("17: the vector", x.count(2), 1);
        Check.due("17: finished", x.count(5), 2);
        x.sealInput();
        Check.due("17: sealed", x.count(3), 1);
        x.combineStart();
        Check.due("17: begun", x.count(4), 1);
        x.combineEnd();
        Check.due("17: ended", x.count(4), 0);
        Check.due("17: cells left after 0", x.count(0), 79);
        Check.due("17: input after a made row", x.count(1), 2);
        for (int what : wrongs) {
            Check.countThrows(x, what);
        }
    }
}
