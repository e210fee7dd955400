import java.math.BigInteger;

/** The boundary cases that promises 16 and 17 name, each sentence with tests of its own. */
public final class LookEdgesTest {
    private static final int MIN = Integer.MIN_VALUE;
    private static final int MAX = Integer.MAX_VALUE;

    public static void main(String[] args) {
        Sayings.run(LookEdgesTest.class);
    }

    /** Of each number: its sign, how many limbs, and its limbs. */
    private static final int[][] NUMBERS = {{-1, 2, 3, 5}, {0, 0}, {1, 3, 0, MAX, 1}, {-1, 1, 7}};

    private static CutRows withNumbers() {
        CutRows x = new CutRows(3, 9, 90);
        for (int[] number : NUMBERS) {
            x.beginNumber(number[0]);
            for (int i = 0; i < number[1]; i++) {
                x.limb(number[2 + i]);
            }
            x.endCoefficient();
        }
        x.endConstraint();
        Check.input(x, 9, 9, 9, 9);
        return x;
    }

    @Says(promise = 16, text = "Of a NUMBER of a ROW, entry 0 .. variables (the last one the BOUND):")
    static void entries() {
        for (int vars = 1; vars <= 6; vars++) {
            CutRows x = new CutRows(vars, 9, 90);
            long[] numbers = new long[vars + 1];
            for (int entry = 0; entry <= vars; entry++) {
                numbers[entry] = entry + 1;
            }
            Check.input(x, numbers);
            for (int entry = 0; entry <= vars; entry++) {
                Check.due("entry " + entry, x.cell(0, entry, 0), entry + 1);
            }
            Check.cellThrows(x, 0, -1, 0);
            Check.cellThrows(x, 0, vars + 1, 0);
        }
    }

    @Says(promise = 16, text = "what = -1 its sign (-1, 0, 1),")
    static void sign() {
        CutRows x = withNumbers();
        for (int entry = 0; entry < 4; entry++) {
            Check.due("sign of entry " + entry, x.cell(0, entry, -1), NUMBERS[entry][0]);
        }
        BigInteger large = Check.power(31 * 20).subtract(BigInteger.ONE);
        CutRows far = new CutRows(1, 9, 90);
        Check.input(far, large, large.negate());
        Check.due("sign of a large one", far.cell(0, 0, -1), 1);
        Check.due("sign of one far below 0", far.cell(0, 1, -1), -1);
    }

    @Says(promise = 16, text = "-2 how many LIMBS,")
    static void howManyLimbs() {
        CutRows x = withNumbers();
        for (int entry = 0; entry < 4; entry++) {
            Check.due("limbs of entry " + entry, x.cell(0, entry, -2), NUMBERS[entry][1]);
        }
        for (int limbs = 0; limbs <= 20; limbs++) {
            CutRows one = new CutRows(1, 9, 90);
            BigInteger number = Check.power(31 * limbs).subtract(BigInteger.ONE);
            Check.input(one, number, number.negate());
            Check.due(limbs + " limbs", one.cell(0, 0, -2), limbs);
            Check.due(limbs + " limbs below 0", one.cell(0, 1, -2), limbs);
        }
    }

    @Says(promise = 16, text = "else LIMB what from the lowest on (0 if there is none).")
    static void limbs() {
        CutRows x = withNumbers();
        for (int entry = 0; entry < 4; entry++) {
            int size = NUMBERS[entry][1];
            for (int i = 0; i < size; i++) {
                Check.due("limb " + i + " of entry " + entry, x.cell(0, entry, i), NUMBERS[entry][2 + i]);
            }
            for (int what : new int[] {size, size + 1, size + 2, 19, 20, 47, 48, 49, 90, 4000, MAX - 1, MAX}) {
                Check.due("limb " + what + " of entry " + entry, x.cell(0, entry, what), 0);
            }
        }
        CutRows last = new CutRows(1, 1, 4);
        Check.input(last, 6, 8);
        Check.due("the last cell of all", last.cell(0, 1, 0), 8);
        Check.due("none behind it", last.cell(0, 1, 1), 0);
        Check.due("far behind it", last.cell(0, 1, MAX), 0);
    }

    @Says(promise = 16, text = "IllegalArgument: there is no such ROW")
    static void noSuchRow() {
        Check.cellThrows(new CutRows(1, 9, 90), 0, 0, 0);
        CutRows x = withNumbers();
        for (int row : new int[] {MIN, -2, -1, 2, 3, 9, 60, MAX}) {
            for (int what : new int[] {-2, -1, 0, 1, MAX}) {
                Check.cellThrows(x, row, 0, what);
            }
        }
        Check.due("the last row", x.cell(1, 0, 0), 9);
        x.sealInput();
        x.combineStart();
        Check.cellThrows(x, 2, 0, 0);
        x.combineEnd();
        Check.due("a row that was made", x.cell(2, 0, -1), 0);
        Check.cellThrows(x, 3, 0, 0);
    }

    @Says(promise = 16, text = "or entry,")
    static void noSuchEntry() {
        CutRows x = withNumbers();
        for (int entry : new int[] {MIN, -2, -1, 4, 5, 7, MAX}) {
            for (int what : new int[] {-2, -1, 0, 1, MAX}) {
                Check.cellThrows(x, 0, entry, what);
                Check.cellThrows(x, 1, entry, what);
            }
        }
    }

    @Says(promise = 16, text = "or what is below -2.")
    static void noSuchWhat() {
        CutRows x = withNumbers();
        for (int what : new int[] {MIN, MIN + 1, -4, -3}) {
            for (int entry = 0; entry < 4; entry++) {
                Check.cellThrows(x, 0, entry, what);
            }
        }
        Check.due("-2 is none of these", x.cell(0, 1, -2), 0);
    }

    @Says(promise = 17, text = "What = 0 cells left in THE ARENA,")
    static void cellsLeft() {
        CutRows x = new CutRows(1, 9, 4 + 2 + 3 + 2);
        Check.due("all", x.count(0), 11);
        Check.fillVector(x, BigInteger.ONE, BigInteger.ONE);
        Check.due("the vector takes none", x.count(0), 11);
        x.endConstraint();
        Check.due("a row of four", x.count(0), 7);
        Check.input(x, 0, 0);
        Check.due("a row of two", x.count(0), 5);
        x.sealInput();
        Check.input(x, 1, 1);
        Check.due("a row that is refused", x.count(0), 5);
        Check.due("a row of four of five", x.divideRound(0), 2);
        Check.due("one cell", x.count(0), 1);
        x.combineStart();
        x.combineEnd();
        Check.due("too few for a row of 0", x.count(0), 1);
    }

    @Says(promise = 17, text = "1 ROWS of INPUT,")
    static void rowsOfInput() {
        CutRows x = new CutRows(1, 4, 90);
        Check.due("none", x.count(1), 0);
        Check.input(x, 1);
        Check.due("a bad shape", x.count(1), 0);
        Check.input(x, 2, 1);
        Check.input(x, 2, 1);
        Check.due("two", x.count(1), 2);
        x.sealInput();
        x.combineStart();
        x.combineEnd();
        x.divideRound(0);
        Check.due("made rows are none", x.count(1), 2);
        Check.input(x, 2, 1);
        Check.due("sealed", x.count(1), 2);
        CutRows full = Scenes.noRowsLeft();
        Check.input(full, 1, 1, 1);
        Check.due("no room", full.count(1), 2);
    }

    @Says(promise = 17, text = "2 NUMBERS of THE VECTOR,")
    static void numbersOfTheVector() {
        CutRows x = new CutRows(6, 4, 90);
        Check.due("none", x.count(2), 0);
        for (int i = 1; i <= 7; i++) {
            x.beginNumber(0);
            Check.due("begun", x.count(2), i - 1);
            x.endCoefficient();
            Check.due("ended", x.count(2), i);
        }
        x.beginNumber(0);
        x.endCoefficient();
        Check.due("no more than 7", x.count(2), 7);
        x.endConstraint();
        Check.due("none again", x.count(2), 0);
    }

    @Says(promise = 17, text = "3 whether it is SEALED (1 or 0),")
    static void whetherSealed() {
        CutRows x = new CutRows(1, 4, 90);
        Check.due("not yet", x.count(3), 0);
        x.combineStart();
        Check.input(x, 1, 1);
        Check.due("still not", x.count(3), 0);
        x.sealInput();
        Check.due("sealed", x.count(3), 1);
        x.sealInput();
        x.combineStart();
        x.combineEnd();
        Check.due("for ever", x.count(3), 1);
    }

    @Says(promise = 17, text = "4 whether THE SUM is begun,")
    static void whetherBegun() {
        CutRows x = new CutRows(1, 4, 90);
        Check.due("not yet", x.count(4), 0);
        x.combineStart();
        Check.due("refused", x.count(4), 0);
        x.sealInput();
        Check.due("sealed", x.count(4), 0);
        x.combineStart();
        Check.due("begun", x.count(4), 1);
        x.combineAdd(0);
        x.divideRound(0);
        Check.due("still begun", x.count(4), 1);
        x.combineEnd();
        Check.due("ended", x.count(4), 0);
    }

    @Says(promise = 17, text = "5 THE REGISTER (0 none, 1 OPEN, 2 FINISHED).")
    static void theRegister() {
        CutRows x = new CutRows(1, 4, 90);
        Check.due("none", x.count(5), 0);
        x.beginNumber(7);
        x.limb(1);
        x.endCoefficient();
        x.evalPoint(0);
        Check.due("still none", x.count(5), 0);
        x.beginNumber(1);
        Check.due("open", x.count(5), 1);
        x.evalPoint(0);
        Check.due("finished by evalPoint", x.count(5), 2);
        x.beginNumber(1);
        Check.due("open again", x.count(5), 1);
        x.endCoefficient();
        Check.due("finished by endCoefficient", x.count(5), 2);
        x.endConstraint();
        x.sealInput();
        x.combineStart();
        x.combineEnd();
        x.combineStart();
        Check.due("still finished", x.count(5), 2);
        Check.feed(x, 1);
        x.combineAdd(0);
        Check.due("finished by combineAdd", x.count(5), 2);
    }

    @Says(promise = 17, text = "IllegalArgument.")
    static void noSuchCount() {
        for (CutRows x : new CutRows[] {Scenes.fresh(), Scenes.open(), Scenes.summing()}) {
            for (int what : new int[] {MIN, -2, -1, 6, 7, 60, MAX}) {
                Check.countThrows(x, what);
            }
            for (int what = 0; what <= 5; what++) {
                Check.due("count " + what + " is told", x.count(what) >= 0, true);
            }
        }
    }
}
