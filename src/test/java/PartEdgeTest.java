import java.math.BigInteger;

/** The boundary cases of promise 9, a sentence each. */
public final class PartEdgeTest {
    // 31 times this is 1 in 32 bits: a bit number that wraps around would be any that one likes.
    private static final int INVERSE_OF_31 = BigInteger.valueOf(31).modInverse(BigInteger.ONE.shiftLeft(32)).intValue();

    public static void main(String[] args) {
        eachPartHasItsBit();
        eachPartMayBeFull();
        ofTheLargest();
        behindItsEndItIsZero();
        farBehindItsEndItIsZero();
        noBitNumberWrapsAround();
        takesZero();
        refusesBelowZero();
        Checks.end("PartEdgeTest");
    }

    private static EquationDesk quotient(long coefficient, long right) {
        EquationDesk desk = Checks.desk(Checks.row(coefficient, right));
        desk.solve();
        desk.unknown(0);
        return desk;
    }

    /** "31 bits of that, from bit 31 * k on": bit b alone, above and below, of either sign */
    private static void eachPartHasItsBit() {
        for (int b = 0; b < 64; b++) {
            EquationDesk above = quotient(1, 1L << b);
            EquationDesk below = quotient(1L << b, -1);
            for (int k = 0; k < 4; k++) {
                int want = b / 31 == k ? 1 << b % 31 : 0;
                Checks.due("part(false, " + k + ") of 2^" + b, above.part(false, k), want);
                Checks.due("part(true, " + k + ") of 2^" + b, below.part(true, k), want);
            }
        }
    }

    /** "31 bits of that": never below 0, though all of them are 1 */
    private static void eachPartMayBeFull() {
        EquationDesk desk = quotient(Long.MIN_VALUE, Long.MAX_VALUE);
        Checks.due("part(false, 0) of 2^63 - 1", desk.part(false, 0), Integer.MAX_VALUE);
        Checks.due("part(false, 1) of 2^63 - 1", desk.part(false, 1), Integer.MAX_VALUE);
        Checks.due("part(false, 2) of 2^63 - 1", desk.part(false, 2), 1);
        Checks.due("part(false, 3) of 2^63 - 1", desk.part(false, 3), 0);
        Checks.due("part(true, 1) of 2^63", desk.part(true, 1), 0);
        Checks.due("part(true, 2) of 2^63", desk.part(true, 2), 2);
        Checks.due("part(true, 3) of 2^63", desk.part(true, 3), 0);
    }

    /** "31 bits of that, from bit 31 * k on": each part of a determinant at Hadamard's bound */
    private static void ofTheLargest() {
        long[][] rows = Systems.fullPaley();
        BigInteger want = Model.determinantOf(rows, -1).abs();
        EquationDesk desk = Checks.desk(rows);
        desk.solve();
        desk.determinant();
        for (int k = 0; k < 30; k++) {
            int part = want.shiftRight(31 * k).intValue() & Integer.MAX_VALUE;
            Checks.due("part(false, " + k + ") of the largest", desk.part(false, k), part);
        }
        Checks.due("the last part of the largest is not 0", desk.part(false, 25) != 0, true);
    }

    /** "(0 behind its end)": the first part behind it, for ends at 31 * k and on both sides of it */
    private static void behindItsEndItIsZero() {
        for (int b : new int[] {30, 31, 32, 61, 62}) {
            long power = 1L << b;
            EquationDesk desk = quotient(power, power - 1);
            int last = (b - 1) / 31;
            Checks.due("the last part of 2^" + b + " - 1 is not 0", desk.part(false, last) != 0, true);
            Checks.due("the part behind 2^" + b + " - 1", desk.part(false, last + 1), 0);
            Checks.due("the last part of 2^" + b + " is not 0", desk.part(true, b / 31) != 0, true);
            Checks.due("the part behind 2^" + b, desk.part(true, b / 31 + 1), 0);
        }
        Checks.due("part(false, 0) of 0", new EquationDesk().part(false, 0), 0);
        Checks.due("part(true, 1) of 0", new EquationDesk().part(true, 1), 0);
    }

    /** "(0 behind its end)": also where a larger RESULT had bits before, and for the greatest int */
    private static void farBehindItsEndItIsZero() {
        EquationDesk desk = Checks.desk(Systems.fullPaley());
        desk.solve();
        desk.unknown(5);
        desk.determinant();
        desk.size(1);
        desk.put(0, 0, -1L);
        desk.put(0, 1, -1L);
        desk.solve();
        desk.unknown(0);
        for (int k = 1; k < 60; k++) {
            Checks.due("part(false, " + k + ") of 1", desk.part(false, k), 0);
            Checks.due("part(true, " + k + ") of 1", desk.part(true, k), 0);
        }
        for (int k : new int[] {1 << 16, 1 << 27, 1 << 30, Integer.MAX_VALUE - 1, Integer.MAX_VALUE}) {
            Checks.due("part(false, " + k + ") of 1", desk.part(false, k), 0);
            Checks.due("part(true, " + k + ") of 1", desk.part(true, k), 0);
        }
    }

    /** "from bit 31 * k on (0 behind its end)": 31 * k beyond the greatest int is behind the end too */
    private static void noBitNumberWrapsAround() {
        EquationDesk desk = quotient(Long.MIN_VALUE, Long.MAX_VALUE);
        for (int bit = -64; bit < 64; bit++) {
            int k = INVERSE_OF_31 * bit;
            if (k > 2) {
                Checks.due("part(false, " + k + ") of 2^63 - 1", desk.part(false, k), 0);
                Checks.due("part(true, " + k + ") of 2^63", desk.part(true, k), 0);
            }
        }
    }

    /** "IndexOutOfBoundsException: k is below 0.": 0 itself is not */
    private static void takesZero() {
        EquationDesk fresh = new EquationDesk();
        Checks.due("part(false, 0) at first", fresh.part(false, 0), 0);
        Checks.due("part(true, 0) at first", fresh.part(true, 0), 1);
        EquationDesk desk = quotient(-7, 3);
        Checks.due("part(false, 0) of -3 / 7", desk.part(false, 0), 3);
        Checks.due("part(true, 0) of -3 / 7", desk.part(true, 0), 7);
    }

    /** "IndexOutOfBoundsException: k is below 0." */
    private static void refusesBelowZero() {
        for (int k : new int[] {-1, -2, -31, -32, Integer.MIN_VALUE + 1, Integer.MIN_VALUE}) {
            for (boolean below : new boolean[] {false, true}) {
                dueRefused("a new desk", new Twin(), below, k);
                Twin twin = new Twin().fill(Checks.row(-2, 0, 3), Checks.row(0, 4, 5)).solve().unknown(0);
                dueRefused("a solved desk", twin, below, k);
            }
        }
    }

    private static void dueRefused(String on, Twin twin, boolean below, int k) {
        String what = "part(" + below + ", " + k + ") on " + on;
        Checks.dueThrow(what, Checks.INDEX, () -> twin.desk.part(below, k));
        twin.dueAll(what);
    }
}
