import java.math.BigInteger;
import java.util.ArrayList;
import java.util.Arrays;
import java.util.List;

/** What the document says, over BigInteger and lists, with no thought of room or speed. */
final class Model {
    private static final int LIMB_BITS = 31;

    final int vars;
    final List<BigInteger[]> rows = new ArrayList<>();
    private final int maxRows;
    private final int arenaCells;
    private final List<BigInteger> vector = new ArrayList<>();
    private final BigInteger[] point;
    private int register = 0;
    private int sign;
    private List<Integer> limbs = new ArrayList<>();
    private boolean sealed = false;
    private BigInteger[] sum = null;
    private int inputs = 0;

    Model(int vars, int maxRows, int arenaCells) {
        this.vars = Math.min(6, Math.max(1, vars));
        this.maxRows = Math.min(60, Math.max(1, maxRows));
        this.arenaCells = Math.min(4000, Math.max(1, arenaCells));
        point = zeros(this.vars);
    }

    private static BigInteger[] zeros(int length) {
        BigInteger[] all = new BigInteger[length];
        Arrays.fill(all, BigInteger.ZERO);
        return all;
    }

    static int limbsOf(BigInteger number) {
        return (number.abs().bitLength() + LIMB_BITS - 1) / LIMB_BITS;
    }

    private BigInteger fed() {
        BigInteger value = BigInteger.ZERO;
        for (int i = 0; i < limbs.size(); i++) {
            value = value.add(BigInteger.valueOf(limbs.get(i)).shiftLeft(LIMB_BITS * i));
        }
        return value.multiply(BigInteger.valueOf(sign));
    }

    private int cellsLeft() {
        int left = arenaCells;
        for (BigInteger[] row : rows) {
            left -= cellsOf(row);
        }
        return left;
    }

    private static int cellsOf(BigInteger[] row) {
        int cells = 0;
        for (BigInteger number : row) {
            cells += 1 + limbsOf(number);
        }
        return cells;
    }

    private int store(BigInteger[] row) {
        if (rows.size() == maxRows || cellsOf(row) > cellsLeft()) {
            return -4;
        }
        rows.add(row);
        return rows.size() - 1;
    }

    boolean beginNumber(int given) {
        if (Math.abs((long) given) > 1) {
            return false;
        }
        sign = given;
        limbs = new ArrayList<>();
        register = 1;
        return true;
    }

    boolean limb(int w) {
        if (w < 0 || register != 1 || limbs.size() == 20) {
            return false;
        }
        limbs.add(w);
        return true;
    }

    boolean endCoefficient() {
        if (register != 1 || vector.size() == vars + 1) {
            return false;
        }
        vector.add(fed());
        register = 2;
        return true;
    }

    int endConstraint() {
        BigInteger[] row = vector.toArray(new BigInteger[0]);
        vector.clear();
        if (sealed) {
            return -3;
        }
        if (row.length != vars + 1) {
            return -2;
        }
        int number = store(row);
        inputs = rows.size();
        return number;
    }

    boolean sealInput() {
        boolean was = sealed;
        sealed = true;
        return !was;
    }

    boolean combineStart() {
        if (!sealed) {
            return false;
        }
        sum = zeros(vars + 1);
        return true;
    }

    int combineAdd(int row) {
        if (sum == null) {
            return -7;
        }
        if (row < 0 || row >= rows.size()) {
            return -5;
        }
        if (register == 0 || fed().signum() < 0) {
            return -6;
        }
        BigInteger[] next = zeros(vars + 1);
        for (int i = 0; i <= vars; i++) {
            next[i] = sum[i].add(fed().multiply(rows.get(row)[i]));
            if (limbsOf(next[i]) > 48) {
                return -4;
            }
        }
        sum = next;
        register = 2;
        return 0;
    }

    int combineEnd() {
        if (sum == null) {
            return -7;
        }
        int number = store(sum);
        if (number >= 0) {
            sum = null;
        }
        return number;
    }

    int divideRound(int row) {
        if (row < 0 || row >= rows.size() || !sealed) {
            return -5;
        }
        BigInteger[] from = rows.get(row);
        BigInteger greatest = BigInteger.ZERO;
        for (int i = 0; i < vars; i++) {
            greatest = greatest.gcd(from[i]);
        }
        if (greatest.signum() == 0) {
            return -8;
        }
        BigInteger[] made = zeros(vars + 1);
        for (int i = 0; i <= vars; i++) {
            BigInteger rest = from[i].mod(greatest);
            made[i] = from[i].subtract(rest).divide(greatest);
        }
        return store(made);
    }

    boolean refuted() {
        for (int row = inputs; row < rows.size(); row++) {
            BigInteger[] numbers = rows.get(row);
            boolean zero = true;
            for (int i = 0; i < vars; i++) {
                zero &= numbers[i].signum() == 0;
            }
            if (zero && numbers[vars].signum() < 0) {
                return true;
            }
        }
        return false;
    }

    boolean evalStart() {
        Arrays.fill(point, BigInteger.ZERO);
        return true;
    }

    boolean evalPoint(int var) {
        if (var < 0 || var >= vars || register == 0) {
            return false;
        }
        point[var] = fed();
        register = 2;
        return true;
    }

    int evalSatisfied() {
        for (int row = 0; row < inputs; row++) {
            BigInteger left = BigInteger.ZERO;
            for (int i = 0; i < vars; i++) {
                left = left.add(rows.get(row)[i].multiply(point[i]));
            }
            if (left.compareTo(rows.get(row)[vars]) > 0) {
                return 0;
            }
        }
        return 1;
    }

    int rowCount() {
        return rows.size();
    }

    int cell(int row, int entry, int what) {
        if (row < 0 || row >= rows.size() || entry < 0 || entry > vars || what < -2) {
            throw new IllegalArgumentException();
        }
        BigInteger number = rows.get(row)[entry];
        if (what == -1) {
            return number.signum();
        }
        if (what == -2) {
            return limbsOf(number);
        }
        return what < limbsOf(number) ? number.abs().shiftRight(LIMB_BITS * what).intValue() & Integer.MAX_VALUE : 0;
    }

    int count(int what) {
        int[] all = {cellsLeft(), inputs, vector.size(), sealed ? 1 : 0, sum != null ? 1 : 0, register};
        if (what < 0 || what >= all.length) {
            throw new IllegalArgumentException();
        }
        return all[what];
    }
}
