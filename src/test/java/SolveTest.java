/** Promise 4: solve. */
public final class SolveTest {
    public static void main(String[] args) {
        withNoUnknowns();
        tellsSingular();
        tellsSingularOfEachSize();
        tellsSingularOfLargeNumbers();
        oneOffSingularIsSolved();
        changesRowsWhereItMust();
        maySolveTwice();
        singularBehindSolved();
        keepsSystemAndResult();
        Checks.end("SolveTest");
    }

    private static void withNoUnknowns() {
        EquationDesk desk = new EquationDesk();
        Checks.due("solve() with n 0", desk.solve(), true);
        Checks.due("solve() with n 0 again", desk.solve(), true);
        Checks.due("determinant() with n 0", desk.determinant(), 1);
    }

    private static void dueSingular(String what, EquationDesk desk) {
        Checks.due("solve() of " + what, desk.solve(), false);
        Checks.dueThrow("determinant() of " + what, Checks.STATE, () -> desk.determinant());
        Checks.dueThrow("unknown(0) of " + what, Checks.STATE, () -> desk.unknown(0));
        Checks.dueThrow("compare(0, 0) of " + what, Checks.STATE, () -> desk.compare(0, 0));
        Checks.due("solve() again of " + what, desk.solve(), false);
    }

    private static void tellsSingular() {
        dueSingular("0 x = 0", Checks.desk(Checks.row(0, 0)));
        dueSingular("0 x = 1", Checks.desk(Checks.row(0, 1)));
        dueSingular("two rows alike", Checks.desk(Checks.row(1, 2, 3), Checks.row(2, 4, 6)));
        dueSingular("two rows that contradict", Checks.desk(Checks.row(1, 2, 3), Checks.row(2, 4, 7)));
        dueSingular("a column of 0", Checks.desk(Checks.row(1, 0, 3), Checks.row(2, 0, 7)));
        dueSingular("a first column of 0", Checks.desk(Checks.row(0, 1, 3), Checks.row(0, 2, 7)));
        dueSingular("1 to 9",
                Checks.desk(Checks.row(1, 2, 3, 1), Checks.row(4, 5, 6, 1), Checks.row(7, 8, 9, 1)));
    }

    /** All 0, and the last row the sum of the others. */
    private static void tellsSingularOfEachSize() {
        for (int n = 1; n <= 12; n++) {
            EquationDesk zeros = new EquationDesk();
            zeros.size(n);
            dueSingular("all 0 with n " + n, zeros);
            long[][] rows = new long[n][n + 1];
            for (int i = 0; i < n - 1; i++) {
                for (int j = 0; j <= n; j++) {
                    rows[i][j] = (i + 2L) * (j + 3L) * (j + 3L) % 17L - i * j;
                    rows[n - 1][j] += rows[i][j];
                }
            }
            rows[n - 1][n] += 5;
            dueSingular("a sum of rows with n " + n, Checks.desk(rows));
        }
    }

    private static void tellsSingularOfLargeNumbers() {
        long min = Long.MIN_VALUE;
        long max = Long.MAX_VALUE;
        dueSingular("MIN throughout", Checks.desk(Checks.row(min, min, 1), Checks.row(min, min, 2)));
        dueSingular("MAX throughout", Checks.desk(Checks.row(max, max, 1), Checks.row(max, max, 2)));
        dueSingular("MIN and halves",
                Checks.desk(Checks.row(min, 1L << 62, 1), Checks.row(-2, 1, 1)));
    }

    private static void oneOffSingularIsSolved() {
        long max = Long.MAX_VALUE;
        // The determinant is MAX * (MAX - 2) - (MAX - 1)^2 = -1.
        EquationDesk desk = Checks.desk(Checks.row(max, max - 1, 0), Checks.row(max - 1, max - 2, 0));
        Checks.due("solve()", desk.solve(), true);
        Checks.due("determinant()", desk.determinant(), -1);
        Checks.dueResult("the determinant", desk, 1, 1);
        // A determinant of 2^124 has low bits of 0 alone.
        EquationDesk power = Checks.desk(Checks.row(1L << 62, 0, 1), Checks.row(0, 1L << 62, 1));
        Checks.due("solve() with powers of 2", power.solve(), true);
        Checks.due("determinant() with powers of 2", power.determinant(), 1);
        Checks.due("bits of 2^124", power.bits(false), 125);
    }

    private static void changesRowsWhereItMust() {
        for (int n = 1; n <= 12; n++) {
            EquationDesk desk = new EquationDesk();
            desk.size(n);
            for (int i = 0; i < n; i++) {
                desk.put(i, (i + 1) % n, i + 2L);
                desk.put(i, n, (i + 2L) * (i - 3L));
            }
            Checks.due("solve() of a ring of " + n, desk.solve(), true);
            for (int i = 0; i < n; i++) {
                Checks.due("unknown of a ring of " + n, desk.unknown((i + 1) % n), Integer.signum(i - 3));
                Checks.dueResult("unknown of a ring of " + n, desk, i - 3L, 1);
            }
        }
    }

    private static void maySolveTwice() {
        EquationDesk desk = Checks.desk(Checks.row(0, 3, 1), Checks.row(5, 7, 1));
        Checks.due("solve()", desk.solve(), true);
        Checks.due("solve() again", desk.solve(), true);
        Checks.due("determinant()", desk.determinant(), -1);
        Checks.dueResult("the determinant", desk, -15, 1);
        Checks.due("unknown(0)", desk.unknown(0), -1);
        Checks.dueResult("unknown 0", desk, -4, 15);
    }

    private static void singularBehindSolved() {
        EquationDesk desk = Checks.desk(Checks.row(1, 2, 3), Checks.row(3, 4, 5));
        Checks.due("solve()", desk.solve(), true);
        desk.put(1, 1, 6L);
        dueSingular("a system that was solved before", desk);
        desk.put(1, 1, 4L);
        Checks.due("solve() of it as it was", desk.solve(), true);
        Checks.due("determinant() of it as it was", desk.determinant(), -1);
        Checks.dueResult("the determinant of it as it was", desk, -2, 1);
    }

    private static void keepsSystemAndResult() {
        EquationDesk desk = Checks.desk(Checks.row(0, 2, 3), Checks.row(3, 4, 5));
        desk.solve();
        desk.unknown(1);
        desk.solve();
        Checks.dueResult("the result behind solve()", desk, 3, 2);
        long[][] were = {{0, 2, 3}, {3, 4, 5}};
        for (int i = 0; i < 2; i++) {
            for (int j = 0; j <= 2; j++) {
                Checks.due("put behind solve()", desk.put(i, j, 0L), were[i][j]);
            }
        }
        Checks.due("solve() of 0", desk.solve(), false);
        Checks.dueResult("the result behind a solve() that answers false", desk, 3, 2);
    }
}
