import java.util.Arrays;

/**
 * A checker of proofs that linear constraints have no whole solution. The words in capitals are
 * those of the document.
 */
public final class CutRows {
    public static final int OK = 0;
    public static final int BADSHAPE = -2;
    public static final int SEALED = -3;
    public static final int NOROOM = -4;
    public static final int BADROW = -5;
    public static final int NEGATIVE = -6;
    public static final int NOSTART = -7;
    public static final int ZEROROW = -8;
    public static final int NO = 0;
    public static final int YES = 1;

    private static final int MOST_VARS = 6;
    private static final int MOST_ROWS = 60;
    private static final int MOST_CELLS = 4000;

    private static final int FED_LIMBS = 20;
    private static final int SUM_LIMBS = 48;
    /** A fed NUMBER times one of a ROW, and a LIMB for the carry when THE SUM is added to that. */
    private static final int WIDE_LIMBS = FED_LIMBS + SUM_LIMBS + 1;

    private static final int LIMB_BITS = 31;
    private static final int LIMB_MASK = 0x7fffffff;

    /** Far above the some 2,200 steps that Euclid's way can take on NUMBERS of 48 LIMBS. */
    private static final int MOST_EUCLID_STEPS = 1_000_000;

    private static final int PART_SIGN = -1;
    private static final int PART_SIZE = -2;

    private final int vars;
    private final Arena arena;
    private final Register register;
    private final Whole[] vector;
    private final Whole[] point;
    private final Divider divider;
    private int vectorSize;
    private int inputRows;
    private boolean sealed;
    private boolean sumBegun;
    private boolean contradicted;
    private Whole[] sum;
    /** What a call works out before it is known whether it may be kept. */
    private Whole[] draft;
    private final Whole factor;
    private final Whole product;
    private final Whole total;

    public CutRows(int vars, int maxRows, int arenaCells) {
        this.vars = nearest(vars, MOST_VARS);
        int width = this.vars + 1;
        arena = new Arena(width, nearest(maxRows, MOST_ROWS), nearest(arenaCells, MOST_CELLS));
        register = new Register();
        vector = zeros(width, FED_LIMBS);
        point = zeros(this.vars, FED_LIMBS);
        divider = new Divider();
        sum = zeros(width, WIDE_LIMBS);
        draft = zeros(width, WIDE_LIMBS);
        factor = new Whole(SUM_LIMBS);
        product = new Whole(WIDE_LIMBS);
        total = new Whole(WIDE_LIMBS);
    }

    public boolean beginNumber(int sign) {
        if (sign < -1 || sign > 1) {
            return false;
        }
        register.open(sign);
        return true;
    }

    public boolean limb(int w) {
        if (w < 0 || !register.takesMore()) {
            return false;
        }
        register.append(w);
        return true;
    }

    public boolean endCoefficient() {
        if (register.state != Register.OPEN || vectorSize >= vector.length) {
            return false;
        }
        vector[vectorSize].copyFrom(register.number);
        vectorSize++;
        register.finish();
        return true;
    }

    public int endConstraint() {
        boolean full = vectorSize == vector.length;
        vectorSize = 0;
        if (sealed) {
            return SEALED;
        }
        if (!full) {
            return BADSHAPE;
        }
        int row = arena.keep(vector);
        if (row >= 0) {
            inputRows++;
        }
        return row;
    }

    public boolean sealInput() {
        boolean first = !sealed;
        sealed = true;
        return first;
    }

    public boolean combineStart() {
        if (!sealed) {
            return false;
        }
        setAllZero(sum);
        sumBegun = true;
        return true;
    }

    public int combineAdd(int row) {
        if (!sumBegun) {
            return NOSTART;
        }
        if (!arena.has(row)) {
            return BADROW;
        }
        if (!register.hasNumber() || register.number.sign < 0) {
            return NEGATIVE;
        }
        if (!draftSumWith(row)) {
            return NOROOM;
        }
        Whole[] before = sum;
        sum = draft;
        draft = before;
        register.finish();
        return OK;
    }

    public int combineEnd() {
        if (!sumBegun) {
            return NOSTART;
        }
        int row = keepMade(sum);
        if (row >= 0) {
            sumBegun = false;
        }
        return row;
    }

    public int divideRound(int row) {
        if (!sealed || !arena.has(row)) {
            return BADROW;
        }
        if (!hasCoefficient(row)) {
            return ZEROROW;
        }
        // No quotient can fit then, and the greatest divisor is dear to find.
        if (arena.isFull()) {
            return NOROOM;
        }
        findGreatestDivisor(row);
        for (int entry = 0; entry <= vars; entry++) {
            arena.load(row, entry, factor);
            divider.floorByGreatest(factor, draft[entry]);
        }
        return keepMade(draft);
    }

    public boolean refuted() {
        return contradicted;
    }

    public int rowCount() {
        return arena.rows;
    }

    public boolean evalStart() {
        setAllZero(point);
        return true;
    }

    public boolean evalPoint(int var) {
        if (var < 0 || var >= vars || !register.hasNumber()) {
            return false;
        }
        point[var].copyFrom(register.number);
        register.finish();
        return true;
    }

    public int evalSatisfied() {
        for (int row = 0; row < inputRows; row++) {
            if (!holdsAtPoint(row)) {
                return NO;
            }
        }
        return YES;
    }

    public int cell(int row, int entry, int what) throws IllegalArgumentException {
        if (!arena.has(row) || entry < 0 || entry > vars || what < PART_SIZE) {
            throw new IllegalArgumentException("no such row, entry or part of a number");
        }
        if (what == PART_SIGN) {
            return arena.signOf(row, entry);
        }
        if (what == PART_SIZE) {
            return arena.sizeOf(row, entry);
        }
        return arena.digitOf(row, entry, what);
    }

    public int count(int what) throws IllegalArgumentException {
        switch (what) {
            case 0:
                return arena.cellsLeft();
            case 1:
                return inputRows;
            case 2:
                return vectorSize;
            case 3:
                return sealed ? 1 : 0;
            case 4:
                return sumBegun ? 1 : 0;
            case 5:
                return register.state;
            default:
                throw new IllegalArgumentException("nothing of this number is counted");
        }
    }

    private static int nearest(int value, int most) {
        return Math.max(1, Math.min(most, value));
    }

    private static Whole[] zeros(int length, int room) {
        Whole[] numbers = new Whole[length];
        for (int i = 0; i < length; i++) {
            numbers[i] = new Whole(room);
        }
        return numbers;
    }

    private static void setAllZero(Whole[] numbers) {
        for (int i = 0; i < numbers.length; i++) {
            numbers[i].setZero();
        }
    }

    /** THE SUM itself is left alone, since a later NUMBER may turn out to have no room. */
    private boolean draftSumWith(int row) {
        for (int entry = 0; entry <= vars; entry++) {
            arena.load(row, entry, factor);
            draft[entry].setProduct(register.number, factor);
            draft[entry].add(sum[entry]);
            if (draft[entry].size > SUM_LIMBS) {
                return false;
            }
        }
        return true;
    }

    private int keepMade(Whole[] numbers) {
        int row = arena.keep(numbers);
        if (row >= 0 && numbers[vars].sign < 0 && !hasCoefficient(row)) {
            contradicted = true;
        }
        return row;
    }

    private boolean hasCoefficient(int row) {
        for (int entry = 0; entry < vars; entry++) {
            if (arena.signOf(row, entry) != 0) {
                return true;
            }
        }
        return false;
    }

    private void findGreatestDivisor(int row) {
        divider.greatest.setZero();
        for (int entry = 0; entry < vars; entry++) {
            arena.load(row, entry, factor);
            divider.narrowGreatest(factor);
        }
    }

    private boolean holdsAtPoint(int row) {
        arena.load(row, vars, factor);
        total.copyFrom(factor);
        total.sign = -total.sign;
        for (int entry = 0; entry < vars; entry++) {
            arena.load(row, entry, factor);
            product.setProduct(factor, point[entry]);
            total.add(product);
        }
        return total.sign <= 0;
    }

    /**
     * A NUMBER in its shortest form: the highest LIMB is never 0, and 0 has sign 0 and no LIMBS. It
     * is changed in place, so that no call has to make one.
     */
    private static final class Whole {
        final int[] limbs;
        int size;
        int sign;

        Whole(int room) {
            limbs = new int[room];
        }

        void setZero() {
            size = 0;
            sign = 0;
        }

        void copyFrom(Whole other) {
            System.arraycopy(other.limbs, 0, limbs, 0, other.size);
            size = other.size;
            sign = other.sign;
        }

        /** Brings what has been written into the LIMBS to the shortest form. */
        void settle(int length, int newSign) {
            size = length;
            while (size > 0 && limbs[size - 1] == 0) {
                size--;
            }
            sign = size == 0 ? 0 : newSign;
        }

        int digit(int index) {
            return index < size ? limbs[index] : 0;
        }

        int compareSize(Whole other) {
            if (size != other.size) {
                return Integer.compare(size, other.size);
            }
            for (int i = size - 1; i >= 0; i--) {
                if (limbs[i] != other.limbs[i]) {
                    return Integer.compare(limbs[i], other.limbs[i]);
                }
            }
            return 0;
        }

        /** Neither of the two may be this one. */
        void setProduct(Whole a, Whole b) {
            Arrays.fill(limbs, 0, a.size + b.size, 0);
            for (int i = 0; i < a.size; i++) {
                addTimes(a.limbs[i], b, i);
            }
            settle(a.size + b.size, a.sign * b.sign);
        }

        private void addTimes(long times, Whole other, int at) {
            long carry = 0;
            for (int i = 0; i < other.size; i++) {
                carry += times * other.limbs[i] + limbs[at + i];
                limbs[at + i] = (int) carry & LIMB_MASK;
                carry >>>= LIMB_BITS;
            }
            limbs[at + other.size] = (int) carry;
        }

        void add(Whole other) {
            if (sign * other.sign >= 0) {
                addLimbs(other, sign != 0 ? sign : other.sign);
            } else if (compareSize(other) >= 0) {
                setDifference(this, other, sign);
            } else {
                setDifference(other, this, other.sign);
            }
        }

        private void addLimbs(Whole other, int newSign) {
            int length = Math.max(size, other.size);
            long carry = 0;
            for (int i = 0; i < length; i++) {
                carry += (long) digit(i) + other.digit(i);
                limbs[i] = (int) carry & LIMB_MASK;
                carry >>>= LIMB_BITS;
            }
            if (carry != 0) {
                limbs[length] = (int) carry;
                length++;
            }
            settle(length, newSign);
        }

        /** Either of the two may be this one: each LIMB is read before it is written. */
        private void setDifference(Whole larger, Whole smaller, int newSign) {
            int length = larger.size;
            int borrow = 0;
            for (int i = 0; i < length; i++) {
                int rest = larger.limbs[i] - smaller.digit(i) - borrow;
                limbs[i] = rest & LIMB_MASK;
                borrow = rest >>> LIMB_BITS;
            }
            settle(length, newSign);
        }

        /** One further away from 0, for a NUMBER that is known to have room for it. */
        void growByOne(int newSign) {
            int at = 0;
            while (at < size && limbs[at] == LIMB_MASK) {
                limbs[at] = 0;
                at++;
            }
            limbs[at] = digit(at) + 1;
            settle(Math.max(size, at + 1), newSign);
        }
    }

    /** THE REGISTER. */
    private static final class Register {
        static final int NONE = 0;
        static final int OPEN = 1;
        static final int FINISHED = 2;

        final Whole number = new Whole(FED_LIMBS);
        int state = NONE;
        private int givenSign;
        /** LIMBS of 0 at the top count here, since others may come above them. */
        private int fed;

        void open(int sign) {
            number.setZero();
            givenSign = sign;
            fed = 0;
            state = OPEN;
        }

        boolean takesMore() {
            return state == OPEN && fed < FED_LIMBS;
        }

        void append(int w) {
            number.limbs[fed] = w;
            fed++;
            if (w != 0 && givenSign != 0) {
                number.size = fed;
                number.sign = givenSign;
            }
        }

        boolean hasNumber() {
            return state != NONE;
        }

        void finish() {
            state = FINISHED;
        }
    }

    /** THE ARENA: of each NUMBER one cell with its sign times its size, and then its LIMBS. */
    private static final class Arena {
        private final int[] cells;
        private final int[] starts;
        private final int width;
        private final int maxRows;
        private int used;
        int rows;

        Arena(int width, int maxRows, int size) {
            this.width = width;
            this.maxRows = maxRows;
            cells = new int[size];
            starts = new int[width * maxRows];
        }

        int cellsLeft() {
            return cells.length - used;
        }

        boolean has(int row) {
            return row >= 0 && row < rows;
        }

        boolean isFull() {
            return rows >= maxRows;
        }

        int signOf(int row, int entry) {
            return Integer.signum(cells[starts[row * width + entry]]);
        }

        int sizeOf(int row, int entry) {
            return Math.abs(cells[starts[row * width + entry]]);
        }

        int digitOf(int row, int entry, int index) {
            return index < sizeOf(row, entry) ? cells[starts[row * width + entry] + 1 + index] : 0;
        }

        void load(int row, int entry, Whole into) {
            int size = sizeOf(row, entry);
            System.arraycopy(cells, starts[row * width + entry] + 1, into.limbs, 0, size);
            into.size = size;
            into.sign = signOf(row, entry);
        }

        /** The number of the new ROW, or NOROOM. */
        int keep(Whole[] numbers) {
            if (isFull() || cellsFor(numbers) > cellsLeft()) {
                return NOROOM;
            }
            for (int entry = 0; entry < width; entry++) {
                starts[rows * width + entry] = used;
                append(numbers[entry]);
            }
            rows++;
            return rows - 1;
        }

        private int cellsFor(Whole[] numbers) {
            int needed = width;
            for (int entry = 0; entry < width; entry++) {
                needed += numbers[entry].size;
            }
            return needed;
        }

        private void append(Whole number) {
            cells[used] = number.sign * number.size;
            System.arraycopy(number.limbs, 0, cells, used + 1, number.size);
            used += 1 + number.size;
        }
    }

    /** Division without regard to signs, of NUMBERS of ROWS. */
    private static final class Divider {
        final Whole greatest = new Whole(SUM_LIMBS);
        private final Whole quotient = new Whole(SUM_LIMBS);
        private final Whole remainder = new Whole(SUM_LIMBS);
        private final int[] top = new int[SUM_LIMBS + 1];
        private final int[] bottom = new int[SUM_LIMBS];

        /** The greatest divisor of it and this one, by Euclid's way; this one is used up. */
        void narrowGreatest(Whole other) {
            for (int step = 0; step < MOST_EUCLID_STEPS && other.size > 0; step++) {
                divide(greatest, other);
                greatest.copyFrom(other);
                other.copyFrom(remainder);
            }
        }

        void floorByGreatest(Whole number, Whole into) {
            divide(number, greatest);
            into.copyFrom(quotient);
            into.sign = into.size == 0 ? 0 : number.sign;
            if (number.sign < 0 && remainder.size > 0) {
                into.growByOne(number.sign);
            }
        }

        private void divide(Whole number, Whole divisor) {
            if (divisor.size == 0 || number.compareSize(divisor) < 0) {
                quotient.setZero();
                remainder.copyFrom(number);
            } else if (divisor.size == 1) {
                divideByDigit(number, divisor.limbs[0]);
            } else {
                divideByMany(number, divisor);
            }
        }

        private void divideByDigit(Whole number, int digit) {
            long rest = 0;
            for (int i = number.size - 1; i >= 0; i--) {
                rest = rest << LIMB_BITS | number.limbs[i];
                quotient.limbs[i] = (int) (rest / digit);
                rest %= digit;
            }
            quotient.settle(number.size, 1);
            remainder.limbs[0] = (int) rest;
            remainder.settle(1, 1);
        }

        /** Knuth's algorithm D. Both are shifted so that the divisor's highest bit is set. */
        private void divideByMany(Whole number, Whole divisor) {
            int length = divisor.size;
            int shift = Integer.numberOfLeadingZeros(divisor.limbs[length - 1]) - 1;
            shiftUp(divisor, shift, bottom);
            top[number.size] = shiftUp(number, shift, top);
            for (int at = number.size - length; at >= 0; at--) {
                quotient.limbs[at] = takeOut(guessDigit(at, length), at, length);
            }
            quotient.settle(number.size - length + 1, 1);
            for (int i = 0; i < length; i++) {
                long pair = (long) top[i + 1] << LIMB_BITS | top[i];
                remainder.limbs[i] = (int) (pair >>> shift) & LIMB_MASK;
            }
            remainder.settle(length, 1);
        }

        /** Answers what is shifted out at the upper end. */
        private static int shiftUp(Whole from, int shift, int[] to) {
            long carry = 0;
            for (int i = 0; i < from.size; i++) {
                carry |= (long) from.limbs[i] << shift;
                to[i] = (int) carry & LIMB_MASK;
                carry >>>= LIMB_BITS;
            }
            return (int) carry;
        }

        /** The digit of the quotient, or one more than that: two LIMBS of the divisor tell no more. */
        private long guessDigit(int at, int length) {
            long head = (long) top[at + length] << LIMB_BITS | top[at + length - 1];
            long first = bottom[length - 1];
            long second = bottom[length - 2];
            long guess = head / first;
            long rest = head % first;
            for (int fall = 0; fall < 2 && rest <= LIMB_MASK; fall++) {
                long below = rest << LIMB_BITS | top[at + length - 2];
                if (guess <= LIMB_MASK && guess * second <= below) {
                    break;
                }
                guess--;
                rest += first;
            }
            return guess;
        }

        /** Takes the divisor that many times out of the top, and answers how often it went. */
        private int takeOut(long times, int at, int length) {
            long carry = 0;
            for (int i = 0; i < length; i++) {
                carry += times * bottom[i];
                int rest = top[at + i] - ((int) carry & LIMB_MASK);
                top[at + i] = rest & LIMB_MASK;
                carry = (carry >>> LIMB_BITS) + (rest >>> LIMB_BITS);
            }
            boolean tooOften = top[at + length] < carry;
            // What is left is less than the divisor, so it has no LIMB here.
            top[at + length] = 0;
            if (tooOften) {
                putBack(at, length);
                return (int) times - 1;
            }
            return (int) times;
        }

        private void putBack(int at, int length) {
            long carry = 0;
            for (int i = 0; i < length; i++) {
                carry += (long) top[at + i] + bottom[i];
                top[at + i] = (int) carry & LIMB_MASK;
                carry >>>= LIMB_BITS;
            }
        }
    }
}
