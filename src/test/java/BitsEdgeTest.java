/** The boundary cases of promise 8, a sentence each. */
public final class BitsEdgeTest {
    public static void main(String[] args) {
        ofZeroItIsZero();
        ofZeroBelowItIsOne();
        theSignDoesNotCount();
        stepsAtEachPowerOfTwo();
        ofTheLargest();
        forgetsTheLarger();
        Checks.end("BitsEdgeTest");
    }

    private static EquationDesk quotient(long coefficient, long right) {
        EquationDesk desk = Checks.desk(Checks.row(coefficient, right));
        desk.solve();
        desk.unknown(0);
        return desk;
    }

    /** "0 for 0." */
    private static void ofZeroItIsZero() {
        Checks.due("bits(false) at first", new EquationDesk().bits(false), 0);
        Checks.due("bits(false) of 0 / -2^63", quotient(Long.MIN_VALUE, 0).bits(false), 0);
        Checks.due("bits(false) of 0 / 1", quotient(1, 0).bits(false), 0);
    }

    /** "0 for 0.": but below it is 1, which has a bit */
    private static void ofZeroBelowItIsOne() {
        Checks.due("bits(true) at first", new EquationDesk().bits(true), 1);
        Checks.due("bits(true) of 0 / -2^63", quotient(Long.MIN_VALUE, 0).bits(true), 1);
        Checks.due("bits(true) of 0 / 1", quotient(1, 0).bits(true), 1);
    }

    /** "the numerator without its sign (below: denominator)" */
    private static void theSignDoesNotCount() {
        dueBits(1, -1, 1, 1);
        dueBits(-1, -1, 1, 1);
        dueBits(1, -Long.MAX_VALUE, 63, 1);
        dueBits(1, Long.MAX_VALUE, 63, 1);
        dueBits(1, Long.MIN_VALUE, 64, 1);
        dueBits(-1, Long.MIN_VALUE, 64, 1);
        dueBits(Long.MIN_VALUE, 1, 1, 64);
        dueBits(Long.MIN_VALUE, -1, 1, 64);
        dueBits(Long.MIN_VALUE, Long.MAX_VALUE, 63, 64);
        dueBits(Long.MAX_VALUE, Long.MIN_VALUE, 64, 63);
    }

    private static void dueBits(long coefficient, long right, int above, int below) {
        EquationDesk desk = quotient(coefficient, right);
        Checks.due("bits(false) of " + right + " / " + coefficient, desk.bits(false), above);
        Checks.due("bits(true) of " + right + " / " + coefficient, desk.bits(true), below);
    }

    /** "How many bits": one more from 2^b - 1 to 2^b, where b is 31 or 62 too */
    private static void stepsAtEachPowerOfTwo() {
        for (int b = 1; b < 63; b++) {
            long power = 1L << b;
            dueBits(1, power - 1, b, 1);
            dueBits(1, -power, b + 1, 1);
            dueBits(power, power - 1, b, b + 1);
            dueBits(power - 1, power, b + 1, b);
        }
    }

    /** "How many bits": 2^63 to the n, and a determinant at Hadamard's bound */
    private static void ofTheLargest() {
        for (int n = 1; n <= 12; n++) {
            EquationDesk desk = Checks.desk(Systems.diagonal(n, Long.MIN_VALUE, 0L, 1L));
            desk.solve();
            desk.determinant();
            Checks.due("bits(false) of 2^63 to the " + n, desk.bits(false), 63 * n + 1);
            Checks.due("bits(true) of 2^63 to the " + n, desk.bits(true), 1);
        }
        EquationDesk full = Checks.desk(Systems.fullPaley());
        full.solve();
        full.determinant();
        Checks.due("bits(false) of the largest determinant", full.bits(false), 778);
    }

    /** "of the RESULT": of the one that is, not of a larger one before */
    private static void forgetsTheLarger() {
        EquationDesk desk = Checks.desk(Systems.diagonal(12, Long.MIN_VALUE, 0L, 0L));
        desk.put(0, 12, 1L);
        desk.solve();
        desk.determinant();
        desk.unknown(0);
        Checks.due("bits(false) behind a larger one", desk.bits(false), 1);
        Checks.due("bits(true) behind it", desk.bits(true), 64);
        desk.unknown(1);
        Checks.due("bits(false) of 0 behind it", desk.bits(false), 0);
        Checks.due("bits(true) of 0 behind a larger one", desk.bits(true), 1);
    }
}
