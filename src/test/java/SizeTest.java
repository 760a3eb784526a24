/** Promise 2: size. */
public final class SizeTest {
    public static void main(String[] args) {
        takesEachSize();
        refusesOtherSizes();
        refusalChangesNothing();
        makesAllZero();
        isNotSolvedBehindIt();
        keepsTheResult();
        Checks.end("SizeTest");
    }

    private static void takesEachSize() {
        EquationDesk desk = new EquationDesk();
        for (int n = 0; n <= 12; n++) {
            int size = n;
            Checks.dueThrow("size(" + n + ")", Checks.NOTHING, () -> desk.size(size));
            Checks.dueThrow("put(n, 0) with n " + n, Checks.INDEX, () -> desk.put(size, 0, 1L));
            Checks.dueThrow("put(0, n + 1) with n " + n, Checks.INDEX, () -> desk.put(0, size + 1, 1L));
            if (n > 0) {
                Checks.dueThrow("put(n - 1, n) with n " + n, Checks.NOTHING, () -> desk.put(size - 1, size, 1L));
            }
        }
    }

    private static void refusesOtherSizes() {
        EquationDesk desk = new EquationDesk();
        for (int n : new int[] {-1, 13, -12, 14, 256, Integer.MIN_VALUE, Integer.MAX_VALUE}) {
            Checks.dueThrow("size(" + n + ")", Checks.ARGUMENT, () -> desk.size(n));
        }
    }

    private static void refusalChangesNothing() {
        EquationDesk desk = Checks.desk(Checks.row(2, 0, 3), Checks.row(0, 4, 5));
        desk.solve();
        desk.unknown(0);
        Checks.dueThrow("size(13)", Checks.ARGUMENT, () -> desk.size(13));
        Checks.dueThrow("size(-1)", Checks.ARGUMENT, () -> desk.size(-1));
        Checks.dueResult("the result behind a refused size", desk, 3, 2);
        Checks.due("unknown(1) behind a refused size", desk.unknown(1), 1);
        Checks.dueResult("unknown 1 behind a refused size", desk, 5, 4);
        Checks.due("put behind a refused size", desk.put(1, 2, 0L), 5L);
    }

    private static void makesAllZero() {
        dueZeros(deskOfOnes(12), 12);
        dueZeros(deskOfOnes(12), 3);
        dueZeros(deskOfOnes(3), 12);
        EquationDesk desk = deskOfOnes(12);
        desk.size(3);
        dueZeros(desk, 12);
    }

    private static EquationDesk deskOfOnes(int n) {
        EquationDesk desk = new EquationDesk();
        desk.size(n);
        for (int i = 0; i < n; i++) {
            for (int j = 0; j <= n; j++) {
                desk.put(i, j, 1L);
            }
        }
        return desk;
    }

    private static void dueZeros(EquationDesk desk, int n) {
        desk.size(n);
        for (int i = 0; i < n; i++) {
            for (int j = 0; j <= n; j++) {
                Checks.due("put(" + i + ", " + j + ", 0) behind size(" + n + ")", desk.put(i, j, 0L), 0L);
            }
        }
    }

    private static void isNotSolvedBehindIt() {
        EquationDesk desk = Checks.desk(Checks.row(2, 3));
        desk.solve();
        desk.size(1);
        Checks.dueThrow("unknown(0) behind size", Checks.STATE, () -> desk.unknown(0));
        Checks.due("solve() behind size(1)", desk.solve(), false);
        desk.size(0);
        Checks.dueThrow("determinant() behind size(0)", Checks.STATE, () -> desk.determinant());
        Checks.due("solve() behind size(0)", desk.solve(), true);
    }

    private static void keepsTheResult() {
        EquationDesk desk = Checks.desk(Checks.row(-2, 3));
        desk.solve();
        desk.unknown(0);
        desk.size(4);
        Checks.dueResult("the result behind size", desk, -3, 2);
    }
}
