/** Promise 5: unknown. */
public final class UnknownTest {
    public static void main(String[] args) {
        setsTheResult();
        takesOutCommonDivisors();
        isZeroOverOne();
        keepsTheDenominatorAboveZero();
        refusesBeforeSolve();
        refusesOtherUnknowns();
        stateComesFirst();
        refusalChangesNothing();
        mayBeAskedAgain();
        Checks.end("UnknownTest");
    }

    private static void dueUnknown(EquationDesk desk, int k, long above, long below) {
        Checks.due("unknown(" + k + ")", desk.unknown(k), Long.signum(above));
        Checks.dueResult("unknown " + k, desk, above, below);
    }

    private static void dueQuotient(long coefficient, long right, long above, long below) {
        EquationDesk desk = Checks.desk(Checks.row(coefficient, right));
        desk.solve();
        dueUnknown(desk, 0, above, below);
    }

    private static void setsTheResult() {
        EquationDesk desk = Checks.desk(Checks.row(1, 2, 5), Checks.row(3, 4, 6));
        desk.solve();
        dueUnknown(desk, 0, -4, 1);
        dueUnknown(desk, 1, 9, 2);
        dueUnknown(desk, 0, -4, 1);
        EquationDesk three =
                Checks.desk(Checks.row(2, 1, -1, 8), Checks.row(-3, -1, 2, -11), Checks.row(-2, 1, 2, -3));
        three.solve();
        dueUnknown(three, 0, 2, 1);
        dueUnknown(three, 1, 3, 1);
        dueUnknown(three, 2, -1, 1);
    }

    private static void takesOutCommonDivisors() {
        dueQuotient(6, 4, 2, 3);
        dueQuotient(4, 6, 3, 2);
        dueQuotient(8, 12, 3, 2);
        dueQuotient(96, 36, 3, 8);
        dueQuotient(7, 7, 1, 1);
        dueQuotient(1, 7, 7, 1);
        dueQuotient(7, 1, 1, 7);
        dueQuotient(1L << 62, 1L << 31, 1, 1L << 31);
        dueQuotient(1L << 31, 1L << 62, 1L << 31, 1);
        dueQuotient(3L << 40, 9L << 20, 3, 1L << 20);
        dueQuotient(Long.MAX_VALUE, Long.MAX_VALUE, 1, 1);
        dueQuotient(Long.MIN_VALUE, Long.MIN_VALUE, 1, 1);
        dueQuotient(Long.MIN_VALUE, 2, -1, 1L << 62);
        dueQuotient(2, Long.MIN_VALUE, -(1L << 62), 1);
        dueQuotient(1000000007L * 998244353L, 1000000007L * 999999937L, 999999937L, 998244353L);
        dueQuotient(7540113804746346429L, 4660046610375530309L, 4660046610375530309L, 7540113804746346429L);
    }

    private static void isZeroOverOne() {
        dueQuotient(5, 0, 0, 1);
        dueQuotient(-5, 0, 0, 1);
        EquationDesk desk = Checks.desk(Checks.row(2, 4, 3), Checks.row(6, 8, 6));
        desk.solve();
        dueUnknown(desk, 1, 3, 4);
        dueUnknown(desk, 0, 0, 1);
    }

    private static void keepsTheDenominatorAboveZero() {
        dueQuotient(-6, 4, -2, 3);
        dueQuotient(6, -4, -2, 3);
        dueQuotient(-6, -4, 2, 3);
        dueQuotient(-1, Long.MAX_VALUE, -Long.MAX_VALUE, 1);
    }

    private static void refusesBeforeSolve() {
        EquationDesk desk = Checks.desk(Checks.row(2, 3));
        Checks.dueThrow("unknown(0) before solve()", Checks.STATE, () -> desk.unknown(0));
        desk.solve();
        Checks.dueThrow("unknown(0) behind solve()", Checks.NOTHING, () -> desk.unknown(0));
    }

    private static void refusesOtherUnknowns() {
        EquationDesk desk = new EquationDesk();
        for (int n = 0; n <= 12; n++) {
            desk.size(n);
            for (int i = 0; i < n; i++) {
                desk.put(i, i, 1L);
            }
            desk.solve();
            for (int k : new int[] {-1, n, n + 1, 13, Integer.MIN_VALUE, Integer.MAX_VALUE}) {
                Checks.dueThrow("unknown(" + k + ") with n " + n, Checks.INDEX, () -> desk.unknown(k));
            }
            for (int k = 0; k < n; k++) {
                int last = k;
                Checks.dueThrow("unknown(" + k + ") with n " + n, Checks.NOTHING, () -> desk.unknown(last));
            }
        }
    }

    private static void stateComesFirst() {
        EquationDesk desk = Checks.desk(Checks.row(2, 3));
        Checks.dueThrow("unknown(1), not solved", Checks.STATE, () -> desk.unknown(1));
        Checks.dueThrow("unknown(-1), not solved", Checks.STATE, () -> desk.unknown(-1));
    }

    private static void refusalChangesNothing() {
        EquationDesk desk = Checks.desk(Checks.row(2, 0, 3), Checks.row(0, 4, 5));
        desk.solve();
        desk.unknown(0);
        Checks.dueThrow("unknown(2)", Checks.INDEX, () -> desk.unknown(2));
        Checks.dueThrow("unknown(-1)", Checks.INDEX, () -> desk.unknown(-1));
        Checks.dueResult("the result behind a refused unknown", desk, 3, 2);
        dueUnknown(desk, 1, 5, 4);
        desk.put(0, 0, 1L);
        Checks.dueThrow("unknown(0), not solved", Checks.STATE, () -> desk.unknown(0));
        Checks.dueResult("the result behind unknown(0), not solved", desk, 5, 4);
    }

    private static void mayBeAskedAgain() {
        EquationDesk desk = Checks.desk(Checks.row(6, 0, 4), Checks.row(0, 10, 4));
        desk.solve();
        for (int time = 0; time < 3; time++) {
            dueUnknown(desk, 0, 2, 3);
            dueUnknown(desk, 1, 2, 5);
            Checks.due("determinant()", desk.determinant(), 1);
            Checks.dueResult("the determinant", desk, 60, 1);
            Checks.due("compare(0, 1)", desk.compare(0, 1), 1);
        }
    }
}
