import java.math.BigInteger;

/** The document's words on BigInteger, by another way than the program's: sums over permutations. */
final class Model {
    int n = 0;
    long[][] rows = new long[0][1];
    boolean solved = false;
    BigInteger above = BigInteger.ZERO;
    BigInteger below = BigInteger.ONE;
    private BigInteger determinant = BigInteger.ONE;
    private BigInteger[] numerators = new BigInteger[0];

    void size(int size) {
        n = size;
        rows = new long[n][n + 1];
        solved = false;
    }

    long put(int i, int j, long v) {
        long before = rows[i][j];
        rows[i][j] = v;
        solved = false;
        return before;
    }

    boolean solve() {
        determinant = determinantOf(rows, -1);
        solved = determinant.signum() != 0;
        numerators = new BigInteger[n];
        return solved;
    }

    boolean has(int k) {
        return k >= 0 && k < n;
    }

    int unknown(int k) {
        BigInteger common = numerator(k).gcd(determinant);
        if (determinant.signum() < 0) {
            common = common.negate();
        }
        above = numerator(k).divide(common);
        below = determinant.divide(common);
        return above.signum();
    }

    int determinant() {
        above = determinant;
        below = BigInteger.ONE;
        return above.signum();
    }

    int compare(int j, int k) {
        return numerator(j).compareTo(numerator(k)) * determinant.signum();
    }

    private BigInteger numerator(int k) {
        if (numerators[k] == null) {
            numerators[k] = determinantOf(rows, k);
        }
        return numerators[k];
    }

    /** The determinant, with the right side in place of one column (none if it is -1). */
    static BigInteger determinantOf(long[][] rows, int replaced) {
        int n = rows.length;
        BigInteger[] ofColumns = new BigInteger[1 << n];
        ofColumns[0] = BigInteger.ONE;
        for (int set = 1; set < 1 << n; set++) {
            long[] row = rows[Integer.bitCount(set) - 1];
            BigInteger sum = BigInteger.ZERO;
            for (int j = 0; j < n; j++) {
                long cell = row[j == replaced ? n : j];
                if ((set >> j & 1) != 0 && cell != 0) {
                    BigInteger term = ofColumns[set ^ 1 << j].multiply(BigInteger.valueOf(cell));
                    boolean odd = (Integer.bitCount(set >> j + 1) & 1) != 0;
                    sum = odd ? sum.subtract(term) : sum.add(term);
                }
            }
            ofColumns[set] = sum;
        }
        return ofColumns[(1 << n) - 1];
    }
}
