import java.math.BigInteger;

/** What the tests share: comparing answers, and feeding whole numbers and rows to an object. */
final class Check {
    private static final int LIMB_BITS = 31;
    private static final BigInteger MASK = BigInteger.ONE.shiftLeft(LIMB_BITS).subtract(BigInteger.ONE);

    private static int wrong = 0;
    private static int done = 0;

    private Check() {
    }

    static void due(String what, long got, long want) {
        done++;
        if (got != want) {
            wrong++;
            System.out.println(what + " answered " + got + ", due is " + want);
        }
    }

    static void due(String what, boolean got, boolean want) {
        due(what, got ? 1 : 0, want ? 1 : 0);
    }

    static void due(String what, BigInteger got, BigInteger want) {
        done++;
        if (!got.equals(want)) {
            wrong++;
            System.out.println(what + " answered " + got + ", due is " + want);
        }
    }

    static void cellThrows(CutRows x, int row, int entry, int what) {
        boolean thrown = false;
        try {
            x.cell(row, entry, what);
        } catch (IllegalArgumentException e) {
            thrown = true;
        }
        due("cell(" + row + ", " + entry + ", " + what + ") throws", thrown, true);
    }

    static void countThrows(CutRows x, int what) {
        boolean thrown = false;
        try {
            x.count(what);
        } catch (IllegalArgumentException e) {
            thrown = true;
        }
        due("count(" + what + ") throws", thrown, true);
    }

    /** Leaves the register open. */
    static void feed(CutRows x, BigInteger number) {
        x.beginNumber(number.signum());
        BigInteger rest = number.abs();
        while (rest.signum() != 0) {
            x.limb(rest.and(MASK).intValue());
            rest = rest.shiftRight(LIMB_BITS);
        }
    }

    static void feed(CutRows x, long number) {
        feed(x, BigInteger.valueOf(number));
    }

    static void fillVector(CutRows x, BigInteger... numbers) {
        for (BigInteger number : numbers) {
            feed(x, number);
            x.endCoefficient();
        }
    }

    static int input(CutRows x, BigInteger... numbers) {
        fillVector(x, numbers);
        return x.endConstraint();
    }

    static int input(CutRows x, long... numbers) {
        BigInteger[] big = new BigInteger[numbers.length];
        for (int i = 0; i < numbers.length; i++) {
            big[i] = BigInteger.valueOf(numbers[i]);
        }
        return input(x, big);
    }

    static int add(CutRows x, long times, int row) {
        feed(x, times);
        return x.combineAdd(row);
    }

    static BigInteger number(CutRows x, int row, int entry) {
        BigInteger sum = BigInteger.ZERO;
        for (int i = x.cell(row, entry, -2) - 1; i >= 0; i--) {
            sum = sum.shiftLeft(LIMB_BITS).add(BigInteger.valueOf(x.cell(row, entry, i)));
        }
        return x.cell(row, entry, -1) < 0 ? sum.negate() : sum;
    }

    static void rowIs(String what, CutRows x, int row, long... numbers) {
        for (int entry = 0; entry < numbers.length; entry++) {
            due(what + ", entry " + entry, number(x, row, entry), BigInteger.valueOf(numbers[entry]));
        }
    }

    static BigInteger power(int exponent) {
        return BigInteger.ONE.shiftLeft(exponent);
    }

    static void end() {
        System.out.println(wrong == 0 ? done + " answers are as due" : wrong + " of " + done + " answers are not as due");
        if (wrong != 0) {
            System.exit(1);
        }
    }
}
