import java.math.BigInteger;

/** The boundary cases of promise 6, a sentence each. */
public final class DeterminantEdgeTest {
    public static void main(String[] args) {
        isAnyLong();
        isTheLargest();
        isOfFullSystems();
        theDenominatorIsOne();
        refusesWhatIsNotSolved();
        Checks.end("DeterminantEdgeTest");
    }

    private static void dueDeterminant(String what, BigInteger want, long[]... rows) {
        EquationDesk desk = Checks.desk(rows);
        Checks.due("solve() of " + what, desk.solve(), true);
        Checks.due("determinant() of " + what, desk.determinant(), want.signum());
        Checks.dueResult("the determinant of " + what, desk, want, BigInteger.ONE);
    }

    /** "The RESULT is the determinant: its sign.": of n 1, and of n 0 */
    private static void isAnyLong() {
        dueDeterminant("n 0", BigInteger.ONE);
        for (long v : new long[] {Long.MIN_VALUE, Long.MIN_VALUE + 1, -1, 1, Long.MAX_VALUE}) {
            dueDeterminant("n 1 with " + v, BigInteger.valueOf(v), Checks.row(v, Long.MIN_VALUE));
        }
    }

    /** "The RESULT is the determinant: its sign.": the powers of the least long, and Hadamard's bound */
    private static void isTheLargest() {
        for (int n = 1; n <= 12; n++) {
            BigInteger want = BigInteger.valueOf(Long.MIN_VALUE).pow(n);
            dueDeterminant("a diagonal of the least long, n " + n, want,
                    Systems.diagonal(n, Long.MIN_VALUE, 0L, Long.MIN_VALUE));
        }
        long[][] rows = Systems.fullPaley();
        dueDeterminant("Paley's matrix", Model.determinantOf(rows, -1), rows);
        rows[0] = rows[11];
        rows[11] = Systems.fullPaley()[0];
        dueDeterminant("Paley's matrix, two rows changed", Model.determinantOf(rows, -1), rows);
    }

    /** "The RESULT is the determinant: its sign.": (a - b)^11 (a + 11 b) for a on the diagonal, b off it */
    private static void isOfFullSystems() {
        dueFull(Long.MIN_VALUE, Long.MAX_VALUE);
        dueFull(Long.MAX_VALUE, Long.MIN_VALUE);
        for (long start = 0; start < 24; start++) {
            Twin twin = new Twin().fill(Systems.fullMixed(start)).solve();
            if (twin.model.solved) {
                twin.determinant().dueResult("the determinant of a full system");
            }
        }
    }

    private static void dueFull(long on, long off) {
        BigInteger a = BigInteger.valueOf(on);
        BigInteger b = BigInteger.valueOf(off);
        BigInteger want = a.subtract(b).pow(11).multiply(a.add(b.multiply(BigInteger.valueOf(11))));
        dueDeterminant("a full system with " + on + " on the diagonal", want, Systems.diagonal(12, on, off, on));
    }

    /** "(denominator 1)": also behind an unknown whose denominator is large */
    private static void theDenominatorIsOne() {
        EquationDesk desk = Checks.desk(Checks.row(Long.MIN_VALUE, 0, 1), Checks.row(0, Long.MAX_VALUE, 1));
        desk.solve();
        desk.unknown(0);
        Checks.due("bits(true) before determinant()", desk.bits(true), 64);
        desk.determinant();
        Checks.due("bits(true) behind determinant()", desk.bits(true), 1);
        Checks.due("part(true, 0) behind determinant()", desk.part(true, 0), 1);
        for (int k : new int[] {1, 2, 3, 25, 26, Integer.MAX_VALUE}) {
            Checks.due("part(true, " + k + ") behind determinant()", desk.part(true, k), 0);
        }
    }

    /** "IllegalStateException: it is not solved." */
    private static void refusesWhatIsNotSolved() {
        dueRefused("a new desk", new Twin());
        dueRefused("a desk behind size(0)", new Twin().solve().determinant().size(0));
        dueRefused("a desk behind size(12)", new Twin().solve().determinant().size(12));
        dueRefused("a full desk before solve()", new Twin().fill(Systems.fullPaley()));
        dueRefused("a full desk that is singular", new Twin().fill(Systems.same(12, Long.MIN_VALUE)).solve());
        dueRefused("a desk behind put", new Twin().fill(Checks.row(2, 3)).solve().unknown(0).put(0, 1, 3L));
        dueRefused("a singular desk", new Twin().fill(Checks.row(2, 3)).solve().unknown(0).put(0, 0, 0L).solve());
    }

    private static void dueRefused(String on, Twin twin) {
        String what = "determinant() on " + on;
        Checks.dueThrow(what, Checks.STATE, () -> twin.desk.determinant());
        twin.dueAll(what);
    }
}
