/** Systems of up to twelve equations with whole numbers, solved exactly. */
public final class EquationDesk {
    private static final int MOST_UNKNOWNS = 12;
    private static final int ROW_WIDTH = MOST_UNKNOWNS + 1;

    // 31 bits a limb: a product of two limbs and two carries still fits a long,
    // and a limb is just what part() answers.
    private static final int LIMB_BITS = 31;
    private static final int LIMB_MASK = 0x7fffffff;

    // By Hadamard's bound every minor of a SYSTEM, with the RIGHT side as a
    // column too, is at most (2^63 * sqrt(12))^12 < 2^778: 26 limbs hold it.
    private static final int LIMBS = 26;
    private static final int PRODUCT_LIMBS = 2 * LIMBS;

    private final long[] given = new long[MOST_UNKNOWNS * ROW_WIDTH];
    private int unknowns = 0;
    private boolean solved = false;

    // What solve() works on; behind a solve() that answers true, unknown k is
    // the last cell of row k divided by wholeDeterminant.
    private final Whole[] cells = new Whole[MOST_UNKNOWNS * ROW_WIDTH];
    private final Whole wholeDeterminant = new Whole(LIMBS);

    private final Whole numerator = new Whole(LIMBS);
    private final Whole denominator = new Whole(LIMBS);

    // Rooms for passing values, made once because no call may make any.
    private final Whole product = new Whole(PRODUCT_LIMBS);
    private final Whole otherProduct = new Whole(PRODUCT_LIMBS);
    private final Divisor divisor = new Divisor();

    public EquationDesk() {
        for (int c = 0; c < cells.length; c++) {
            cells[c] = new Whole(LIMBS);
        }
        denominator.setLong(1L);
    }

    public void size(int n) throws IllegalArgumentException {
        if (n < 0 || n > MOST_UNKNOWNS) {
            throw new IllegalArgumentException();
        }
        for (int c = 0; c < given.length; c++) {
            given[c] = 0L;
        }
        unknowns = n;
        solved = false;
    }

    public long put(int i, int j, long v) throws IndexOutOfBoundsException {
        if (i < 0 || i >= unknowns || j < 0 || j > unknowns) {
            throw new IndexOutOfBoundsException();
        }
        int c = cellIndex(i, j);
        long before = given[c];
        given[c] = v;
        solved = false;
        return before;
    }

    public boolean solve() {
        if (!solved) {
            loadCells();
            solved = eliminateAll();
        }
        return solved;
    }

    public int unknown(int k) throws IllegalStateException, IndexOutOfBoundsException {
        if (!solved) {
            throw new IllegalStateException();
        }
        if (!isUnknown(k)) {
            throw new IndexOutOfBoundsException();
        }
        setResult(cells[cellIndex(k, unknowns)], wholeDeterminant);
        return numerator.sign;
    }

    public int determinant() throws IllegalStateException {
        if (!solved) {
            throw new IllegalStateException();
        }
        numerator.setWhole(wholeDeterminant);
        denominator.setLong(1L);
        return numerator.sign;
    }

    public int compare(int j, int k) throws IllegalStateException, IndexOutOfBoundsException {
        if (!solved) {
            throw new IllegalStateException();
        }
        if (!isUnknown(j) || !isUnknown(k)) {
            throw new IndexOutOfBoundsException();
        }
        Whole left = cells[cellIndex(j, unknowns)];
        Whole right = cells[cellIndex(k, unknowns)];
        // Both stand over the determinant, so its sign alone matters.
        return left.order(right) * wholeDeterminant.sign;
    }

    public int bits(boolean below) {
        return resultPart(below).bitLength();
    }

    public int part(boolean below, int k) throws IndexOutOfBoundsException {
        if (k < 0) {
            throw new IndexOutOfBoundsException();
        }
        return resultPart(below).limbAt(k);
    }

    private static int cellIndex(int row, int column) {
        return row * ROW_WIDTH + column;
    }

    private boolean isUnknown(int k) {
        return k >= 0 && k < unknowns;
    }

    private Whole resultPart(boolean below) {
        return below ? denominator : numerator;
    }

    private void loadCells() {
        for (int i = 0; i < unknowns; i++) {
            for (int j = 0; j <= unknowns; j++) {
                int c = cellIndex(i, j);
                cells[c].setLong(given[c]);
            }
        }
    }

    /**
     * Gauss and Jordan without fractions (Bareiss): each cell stays a minor of
     * the SYSTEM, so each division by the pivot before has no remainder.
     */
    private boolean eliminateAll() {
        wholeDeterminant.setLong(1L);
        for (int k = 0; k < unknowns; k++) {
            int row = pivotRow(k);
            if (row < 0) {
                return false;
            }
            if (row != k) {
                swapRows(row, k);
            }
            divisor.setWhole(wholeDeterminant);
            for (int i = 0; i < unknowns; i++) {
                if (i != k) {
                    eliminateRow(i, k);
                }
            }
            wholeDeterminant.setWhole(cells[cellIndex(k, k)]);
        }
        return true;
    }

    /** The first row from k on that can serve column k, -1 if there is none. */
    private int pivotRow(int k) {
        for (int i = k; i < unknowns; i++) {
            if (cells[cellIndex(i, k)].sign != 0) {
                return i;
            }
        }
        return -1;
    }

    /** One of the two rows is negated too, so that the determinant keeps its sign. */
    private void swapRows(int row, int k) {
        for (int j = k; j <= unknowns; j++) {
            Whole kept = cells[cellIndex(k, j)];
            cells[cellIndex(k, j)] = cells[cellIndex(row, j)];
            cells[cellIndex(row, j)] = kept;
            kept.sign = -kept.sign;
        }
    }

    private void eliminateRow(int i, int k) {
        Whole pivot = cells[cellIndex(k, k)];
        Whole factor = cells[cellIndex(i, k)];
        for (int j = k + 1; j <= unknowns; j++) {
            Whole cell = cells[cellIndex(i, j)];
            product.setProduct(pivot, cell);
            otherProduct.setProduct(factor, cells[cellIndex(k, j)]);
            product.subtract(otherProduct);
            divisor.divide(product);
            cell.setWhole(product);
        }
    }

    private void setResult(Whole above, Whole below) {
        numerator.setWhole(above);
        if (above.sign == 0) {
            denominator.setLong(1L);
            return;
        }
        denominator.setWhole(below);
        divisor.setCommon(above, below);
        divisor.divide(numerator);
        divisor.divide(denominator);
        if (denominator.sign < 0) {
            numerator.sign = -numerator.sign;
            denominator.sign = 1;
        }
    }

    /** A whole number: its sign, and its size in limbs, the lowest first. */
    private static final class Whole {
        final int[] limbs;
        // The limbs in use, the last of them not 0; what lies behind is stale.
        int length = 0;
        int sign = 0;

        Whole(int capacity) {
            limbs = new int[capacity];
        }

        void setLong(long v) {
            // Long.MIN_VALUE stays itself here, and reads as 2^63 by >>>.
            long rest = v < 0 ? -v : v;
            sign = Long.signum(v);
            int count = 0;
            for (int i = 0; i < limbs.length && rest != 0; i++) {
                limbs[i] = (int) (rest & LIMB_MASK);
                rest = rest >>> LIMB_BITS;
                count = i + 1;
            }
            length = count;
        }

        void setWhole(Whole other) {
            int count = Math.min(other.length, limbs.length);
            System.arraycopy(other.limbs, 0, limbs, 0, count);
            length = count;
            sign = other.sign;
        }

        int limbAt(int i) {
            return i < length ? limbs[i] : 0;
        }

        int bitLength() {
            if (length == 0) {
                return 0;
            }
            int top = limbs[length - 1];
            return length * LIMB_BITS - (Integer.numberOfLeadingZeros(top) - 1);
        }

        int order(Whole other) {
            if (sign != other.sign) {
                return sign < other.sign ? -1 : 1;
            }
            return sign * orderOfSizes(other);
        }

        int orderOfSizes(Whole other) {
            if (length != other.length) {
                return length < other.length ? -1 : 1;
            }
            for (int i = length - 1; i >= 0; i--) {
                if (limbs[i] != other.limbs[i]) {
                    return limbs[i] < other.limbs[i] ? -1 : 1;
                }
            }
            return 0;
        }

        /** Neither a nor b is this number, and their limbs together fit into it. */
        void setProduct(Whole a, Whole b) {
            int count = Math.min(a.length + b.length, limbs.length);
            for (int i = 0; i < count; i++) {
                limbs[i] = 0;
            }
            for (int i = 0; i < a.length; i++) {
                addMultiple(a.limbs[i], b, i);
            }
            sign = a.sign * b.sign;
            trim(sign == 0 ? 0 : count);
        }

        /** Adds factor times other, moved up by some limbs; the limb behind is still 0. */
        private void addMultiple(int factor, Whole other, int moved) {
            long wide = factor;
            long carry = 0L;
            int end = Math.min(other.length, limbs.length - moved);
            for (int j = 0; j < end; j++) {
                long sum = wide * other.limbs[j] + limbs[moved + j] + carry;
                limbs[moved + j] = (int) (sum & LIMB_MASK);
                carry = sum >>> LIMB_BITS;
            }
            if (moved + end < limbs.length) {
                limbs[moved + end] = (int) carry;
            }
        }

        void subtract(Whole other) {
            if (other.sign == 0) {
                return;
            }
            if (sign == 0) {
                setWhole(other);
                sign = -other.sign;
            } else if (sign != other.sign) {
                addSize(other);
            } else if (orderOfSizes(other) >= 0) {
                setDifferenceOfSizes(this, other);
            } else {
                sign = -sign;
                setDifferenceOfSizes(other, this);
            }
        }

        private void addSize(Whole other) {
            int count = Math.max(length, other.length);
            long carry = 0L;
            for (int i = 0; i < count && i < limbs.length; i++) {
                long sum = (long) limbAt(i) + other.limbAt(i) + carry;
                limbs[i] = (int) (sum & LIMB_MASK);
                carry = sum >>> LIMB_BITS;
            }
            if (carry != 0 && count < limbs.length) {
                limbs[count] = (int) carry;
                count++;
            }
            length = Math.min(count, limbs.length);
        }

        /** The size alone; this number may be either of the two, large is not the smaller one. */
        void setDifferenceOfSizes(Whole large, Whole small) {
            int count = Math.min(large.length, limbs.length);
            long borrow = 0L;
            for (int i = 0; i < count; i++) {
                long rest = large.limbs[i] - (long) small.limbAt(i) + borrow;
                limbs[i] = (int) (rest & LIMB_MASK);
                borrow = rest >> LIMB_BITS;
            }
            trim(count);
        }

        /** How often 2 divides this number; 0 for 0. */
        int countTwos() {
            for (int i = 0; i < length; i++) {
                if (limbs[i] != 0) {
                    return i * LIMB_BITS + Integer.numberOfTrailingZeros(limbs[i]);
                }
            }
            return 0;
        }

        void shiftDown(int bitCount) {
            int skipped = bitCount / LIMB_BITS;
            int low = bitCount % LIMB_BITS;
            int count = Math.max(length - skipped, 0);
            for (int i = 0; i < count; i++) {
                // With low 0 only bit 31 can be left of it, and the mask takes that away.
                int upper = limbAt(i + skipped + 1) << (LIMB_BITS - low);
                limbs[i] = (limbs[i + skipped] >>> low | upper) & LIMB_MASK;
            }
            trim(count);
        }

        /** Sets the length, count or less, so that the last limb is not 0. */
        void trim(int count) {
            int used = count;
            while (used > 0 && limbs[used - 1] == 0) {
                used--;
            }
            length = used;
            if (used == 0) {
                sign = 0;
            }
        }
    }

    /**
     * A divisor, for divisions that leave no remainder. Such a quotient can be
     * read off from the lowest limb upwards if the divisor is odd.
     */
    private static final class Divisor {
        // Each step of the common divisor takes at least one bit from one of two numbers.
        private static final int MOST_STEPS = 2 * LIMBS * LIMB_BITS;

        private final Whole odd = new Whole(LIMBS);
        private final Whole other = new Whole(LIMBS);
        private int twos = 0;
        private int inverse = 0;

        /** The number is not 0. */
        void setWhole(Whole number) {
            odd.setWhole(number);
            twos = odd.countTwos();
            odd.shiftDown(twos);
            setInverse();
        }

        /** The greatest common divisor of two numbers that are not 0. */
        void setCommon(Whole a, Whole b) {
            odd.setWhole(a);
            other.setWhole(b);
            int twosOfA = odd.countTwos();
            int twosOfB = other.countTwos();
            twos = Math.min(twosOfA, twosOfB);
            odd.shiftDown(twosOfA);
            other.shiftDown(twosOfB);
            makeEqual();
            odd.sign = 1;
            setInverse();
        }

        private void makeEqual() {
            for (int step = 0; step < MOST_STEPS; step++) {
                int order = odd.orderOfSizes(other);
                if (order == 0) {
                    return;
                }
                if (order > 0) {
                    lessen(odd, other);
                } else {
                    lessen(other, odd);
                }
            }
        }

        private static void lessen(Whole large, Whole small) {
            large.setDifferenceOfSizes(large, small);
            large.shiftDown(large.countTwos());
        }

        /** Newton's steps: an odd number is its own inverse for 3 bits, and each step doubles them. */
        private void setInverse() {
            int low = odd.limbAt(0);
            int found = low;
            for (int step = 0; step < 4; step++) {
                found = found * (2 - low * found);
            }
            inverse = found & LIMB_MASK;
        }

        /** The number, which has this divisor, becomes the quotient. */
        void divide(Whole number) {
            number.shiftDown(twos);
            // With odd never 0 this is at most number.length; the bounds keep it so for any state.
            int count = Math.min(Math.max(number.length - odd.length + 1, 0), number.length);
            for (int i = 0; i < count; i++) {
                int quotientLimb = number.limbs[i] * inverse & LIMB_MASK;
                subtractMultiple(number.limbs, quotientLimb, i, count);
                number.limbs[i] = quotientLimb;
            }
            number.sign = number.sign * odd.sign;
            number.trim(count);
        }

        /** Only the limbs below end are kept right: no later quotient limb needs another. */
        private void subtractMultiple(int[] limbs, int factor, int moved, int end) {
            long wide = factor;
            long borrow = 0L;
            int run = Math.min(odd.length, end - moved);
            for (int j = 0; j < run; j++) {
                long rest = limbs[moved + j] - wide * odd.limbs[j] + borrow;
                limbs[moved + j] = (int) (rest & LIMB_MASK);
                borrow = rest >> LIMB_BITS;
            }
            for (int i = moved + run; i < end && borrow != 0; i++) {
                long rest = limbs[i] + borrow;
                limbs[i] = (int) (rest & LIMB_MASK);
                borrow = rest >> LIMB_BITS;
            }
        }
    }
}
