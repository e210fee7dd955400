import java.math.BigInteger;

/** What the tests share: comparing answers, and feeding whole numbers and rows to an object. */
final class Check {
    private static final int LIMB_BITS = 31;
    private static final BigInteger MASK = BigInteger.ONE.shiftLeft(LIMB_BITS).subtract(BigInteger.ONE);

    private static int wrong = 0;
    private static int done = 0;
    private static String heading = null;

    private Check() {
    }

    /** What the answers that follow are about; it is printed if one of them is not as due. */
    static void under(String newHeading) {
        heading = newHeading;
    }

    static void fails(String why) {
        wrong++;
        if (heading != null) {
            System.out.println(heading + ":");
            heading = null;
        }
        System.out.println(why);
    }

    static void due(String what, long got, long want) {
        done++;
        if (got != want) {
            fails(what + " answered " + got + ", due is " + want);
        }
    }

    static void due(String what, boolean got, boolean want) {
        due(what, got ? 1 : 0, want ? 1 : 0);
    }

    static void due(String what, Object got, Object want) {
        done++;
        if (!got.equals(want)) {
            fails(what + " answered " + got + ", due is " + want);
        }
    }

    /** Exactly that exception is due, none that is a kind of it. */
    private static void throwsIllegalArgument(String what, Runnable call) {
        String thrown = "nothing";
        try {
            call.run();
        } catch (RuntimeException e) {
            thrown = e.getClass().getSimpleName();
        }
        due(what + " throws", thrown, "IllegalArgumentException");
    }

    static void cellThrows(CutRows x, int row, int entry, int what) {
        throwsIllegalArgument("cell(" + row + ", " + entry + ", " + what + ")", () -> x.cell(row, entry, what));
    }

    static void countThrows(CutRows x, int what) {
        throwsIllegalArgument("count(" + what + ")", () -> x.count(what));
    }

    /** Leaves the register open. */
    static void feed(CutRows x, BigInteger number) {
        x.beginNumber(number.signum());
        BigInteger rest = number.abs();
        while (rest.signum() != 0) {
            x.limb(rest.and(MASK).intValue());
            rest = rest.shiftRight(LIMB_BITS);
        }
    }

    static void feed(CutRows x, long number) {
        feed(x, BigInteger.valueOf(number));
    }

    static void fillVector(CutRows x, BigInteger... numbers) {
        for (BigInteger number : numbers) {
            feed(x, number);
            x.endCoefficient();
        }
    }

    static int input(CutRows x, BigInteger... numbers) {
        fillVector(x, numbers);
        return x.endConstraint();
    }

    static int input(CutRows x, long... numbers) {
        BigInteger[] big = new BigInteger[numbers.length];
        for (int i = 0; i < numbers.length; i++) {
            big[i] = BigInteger.valueOf(numbers[i]);
        }
        return input(x, big);
    }

    static int add(CutRows x, long times, int row) {
        feed(x, times);
        return x.combineAdd(row);
    }

    static BigInteger number(CutRows x, int row, int entry) {
        BigInteger sum = BigInteger.ZERO;
        for (int i = x.cell(row, entry, -2) - 1; i >= 0; i--) {
            sum = sum.shiftLeft(LIMB_BITS).add(BigInteger.valueOf(x.cell(row, entry, i)));
        }
        return x.cell(row, entry, -1) < 0 ? sum.negate() : sum;
    }

    static void rowIs(String what, CutRows x, int row, long... numbers) {
        for (int entry = 0; entry < numbers.length; entry++) {
            due(what + ", entry " + entry, number(x, row, entry), BigInteger.valueOf(numbers[entry]));
        }
    }

    /** Leaves the register open, with these limbs as they are, the lowest first. */
    static void feedLimbs(CutRows x, int sign, int... limbs) {
        x.beginNumber(sign);
        for (int w : limbs) {
            x.limb(w);
        }
    }

    /** A row of zeros but for one entry. */
    static long[] unit(int width, int entry, long number) {
        long[] numbers = new long[width];
        numbers[entry] = number;
        return numbers;
    }

    static void moveTo(CutRows x, long... at) {
        for (int var = 0; var < at.length; var++) {
            feed(x, at[var]);
            x.evalPoint(var);
        }
    }

    static BigInteger power(int exponent) {
        return BigInteger.ONE.shiftLeft(exponent);
    }

    static void end() {
        System.out.println(wrong == 0 ? done + " answers are as due" : wrong + " of " + done + " answers are not as due");
        if (wrong != 0) {
            System.exit(1);
        }
    }
}
