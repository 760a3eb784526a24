/** The boundary cases of promise 2, a sentence each. */
public final class SizeEdgeTest {
    public static void main(String[] args) {
        hasAsManyUnknowns();
        isAllZero();
        isNotSolved();
        takesTheLeastAndTheGreatest();
        refusesTheFirstOnesBeyond();
        Checks.end("SizeEdgeTest");
    }

    /** "A SYSTEM with n unknowns": from every n to every other */
    private static void hasAsManyUnknowns() {
        for (int before = 0; before <= 12; before++) {
            EquationDesk desk = new EquationDesk();
            for (int n = 0; n <= 12; n++) {
                desk.size(before);
                desk.size(n);
                dueUnknowns(desk, n);
            }
        }
    }

    private static void dueUnknowns(EquationDesk desk, int n) {
        for (int i = 0; i < n; i++) {
            desk.put(i, i, 1L);
        }
        Checks.due("solve() with n " + n, desk.solve(), true);
        if (n > 0) {
            Checks.dueThrow("unknown(n - 1) with n " + n, Checks.NOTHING, () -> desk.unknown(n - 1));
        }
        Checks.dueThrow("unknown(n) with n " + n, Checks.INDEX, () -> desk.unknown(n));
    }

    /** "all 0": behind a full SYSTEM of the same n, of a greater and of a smaller one */
    private static void isAllZero() {
        dueZeros("the same n", Checks.desk(Systems.fullPaley()), 12);
        dueZeros("a greater n", Checks.desk(Systems.fullPaley()), 11);
        dueZeros("a smaller n", Checks.desk(Systems.same(11, Systems.LEAST)), 12);
        EquationDesk emptied = Checks.desk(Systems.fullPaley());
        emptied.size(0);
        dueZeros("n 12 and n 0", emptied, 12);
        EquationDesk lessened = Checks.desk(Systems.fullPaley());
        lessened.size(1);
        dueZeros("n 12 and n 1", lessened, 12);
    }

    private static void dueZeros(String what, EquationDesk desk, int n) {
        desk.size(n);
        Checks.due("solve() behind " + what, desk.solve(), false);
        for (int i = 0; i < n; i++) {
            for (int j = 0; j <= n; j++) {
                Checks.due("place " + i + ", " + j + " behind " + what, desk.put(i, j, 1L), 0L);
            }
        }
    }

    /** "not solved": also if n is what it was, and with n 0 */
    private static void isNotSolved() {
        for (int n = 0; n <= 12; n++) {
            EquationDesk desk = Checks.desk(Systems.unit(12, 1L));
            desk.solve();
            desk.size(n);
            dueNotSolved("behind n 12", desk, n);
            EquationDesk same = Checks.desk(Systems.unit(n, 1L));
            same.solve();
            same.size(n);
            dueNotSolved("behind the same n", same, n);
        }
    }

    private static void dueNotSolved(String what, EquationDesk desk, int n) {
        String of = " with n " + n + " " + what;
        Checks.dueThrow("determinant()" + of, Checks.STATE, () -> desk.determinant());
        Checks.dueThrow("unknown(0)" + of, Checks.STATE, () -> desk.unknown(0));
        Checks.dueThrow("compare(0, 0)" + of, Checks.STATE, () -> desk.compare(0, 0));
        Checks.due("solve()" + of, desk.solve(), n == 0);
    }

    /** "n is not 0..12": the ends themselves are taken */
    private static void takesTheLeastAndTheGreatest() {
        EquationDesk desk = new EquationDesk();
        for (int n : new int[] {0, 12, 0, 1, 11, 12}) {
            Checks.dueThrow("size(" + n + ")", Checks.NOTHING, () -> desk.size(n));
        }
        Checks.due("put(11, 12) behind size(12)", desk.put(11, 12, 1L), 0L);
    }

    /** "IllegalArgumentException: n is not 0..12." */
    private static void refusesTheFirstOnesBeyond() {
        int[] beyond = {-1, 13, -2, 14, -12, -13, 1 << 31, (1 << 31) + 12, 256, 268, 65536, Integer.MAX_VALUE};
        for (int n : beyond) {
            Twin twin = new Twin().fill(Checks.row(-2, 0, 3), Checks.row(0, 4, 5)).solve().unknown(0);
            Checks.dueThrow("size(" + n + ")", Checks.ARGUMENT, () -> twin.desk.size(n));
            twin.dueAll("size(" + n + ")");
        }
    }
}
