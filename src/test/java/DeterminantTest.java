import java.math.BigInteger;

/** Promise 6: determinant. */
public final class DeterminantTest {
    public static void main(String[] args) {
        setsTheResult();
        hasTheSignOfTheOrder();
        reachesTheLargest();
        refusesBeforeSolve();
        refusalChangesNothing();
        Checks.end("DeterminantTest");
    }

    private static void dueDeterminant(String what, EquationDesk desk, BigInteger want) {
        Checks.due("solve() of " + what, desk.solve(), true);
        Checks.due("determinant() of " + what, desk.determinant(), want.signum());
        Checks.dueResult("the determinant of " + what, desk, want, BigInteger.ONE);
    }

    private static void setsTheResult() {
        dueDeterminant("n 0", new EquationDesk(), BigInteger.ONE);
        dueDeterminant("5", Checks.desk(Checks.row(5, 1)), BigInteger.valueOf(5));
        dueDeterminant("-5", Checks.desk(Checks.row(-5, 1)), BigInteger.valueOf(-5));
        dueDeterminant("MIN", Checks.desk(Checks.row(Long.MIN_VALUE, 1)), BigInteger.valueOf(Long.MIN_VALUE));
        EquationDesk desk = Checks.desk(Checks.row(1, 2, 5), Checks.row(3, 4, 6));
        desk.solve();
        desk.unknown(1);
        dueDeterminant("1 2 3 4, with the denominator 2 before", desk, BigInteger.valueOf(-2));
    }

    /** The rows of a unit matrix, moved on by one: n - 1 swaps. */
    private static void hasTheSignOfTheOrder() {
        for (int n = 1; n <= 12; n++) {
            EquationDesk desk = new EquationDesk();
            desk.size(n);
            for (int i = 0; i < n; i++) {
                desk.put(i, (i + 1) % n, 1L);
            }
            dueDeterminant("a ring of " + n, desk, BigInteger.valueOf(n % 2 == 0 ? -1 : 1));
        }
    }

    private static void reachesTheLargest() {
        EquationDesk ones = Checks.desk(Systems.paley(1, -1));
        ones.solve();
        int sign = ones.determinant();
        Checks.dueResult("the determinant of Paley's matrix", ones, 2985984L, 1);
        BigInteger bound = BigInteger.valueOf(2985984L * sign);
        dueDeterminant("Paley's matrix by MAX", Checks.desk(Systems.paley(Long.MAX_VALUE, -Long.MAX_VALUE)),
                bound.multiply(BigInteger.valueOf(Long.MAX_VALUE).pow(12)));
        long[][] rows = Systems.paley(Long.MAX_VALUE, Long.MIN_VALUE);
        for (int i = 0; i < 12; i++) {
            rows[i][12] = rows[i][i % 2];
        }
        EquationDesk desk = Checks.desk(rows);
        dueDeterminant("Paley's matrix by MAX and MIN", desk, Model.determinantOf(rows, -1));
        Checks.due("bits of the largest determinant", desk.bits(false), 778);
    }

    private static void refusesBeforeSolve() {
        EquationDesk desk = Checks.desk(Checks.row(2, 3));
        Checks.dueThrow("determinant() before solve()", Checks.STATE, () -> desk.determinant());
        desk.put(0, 0, 0L);
        desk.solve();
        Checks.dueThrow("determinant() of a singular system", Checks.STATE, () -> desk.determinant());
    }

    private static void refusalChangesNothing() {
        EquationDesk desk = Checks.desk(Checks.row(2, 3));
        desk.solve();
        desk.unknown(0);
        desk.put(0, 1, 5L);
        Checks.dueThrow("determinant(), not solved", Checks.STATE, () -> desk.determinant());
        Checks.dueResult("the result behind a refused determinant", desk, 3, 2);
        Checks.due("put behind a refused determinant", desk.put(0, 1, 3L), 5L);
    }
}
