/** The boundary cases of promise 4, a sentence each. */
public final class SolveEdgeTest {
    private static final long LEAST = Systems.LEAST;
    private static final long GREATEST = Systems.GREATEST;

    public static void main(String[] args) {
        tellsOneCoefficient();
        tellsFullSystems();
        tellsWhereOnePlaceDecides();
        tellsByTheCoefficientsAlone();
        singularIsNotSolved();
        singularBehindSolvedIsNotSolved();
        withNoUnknownsItIsSolved();
        Checks.end("SolveEdgeTest");
    }

    /** "whether it is not SINGULAR": the least SYSTEM that can be */
    private static void tellsOneCoefficient() {
        for (long v : new long[] {LEAST, LEAST + 1, -1, 1, 1L << 31, 1L << 32, 1L << 62, GREATEST}) {
            Checks.due("solve() of " + v, Checks.desk(Checks.row(v, 0)).solve(), true);
        }
        Checks.due("solve() of 0", Checks.desk(Checks.row(0, GREATEST)).solve(), false);
    }

    /** "whether it is not SINGULAR": the greatest SYSTEM, full of the least and the greatest long */
    private static void tellsFullSystems() {
        Checks.due("solve() of the least long", Checks.desk(Systems.same(12, LEAST)).solve(), false);
        Checks.due("solve() of the greatest long", Checks.desk(Systems.same(12, GREATEST)).solve(), false);
        Checks.due("solve() of Paley's matrix", Checks.desk(Systems.fullPaley()).solve(), true);
        dueTold("least on the diagonal", Systems.diagonal(12, LEAST, GREATEST, LEAST));
        dueTold("greatest on the diagonal", Systems.diagonal(12, GREATEST, LEAST, GREATEST));
        for (long start = 0; start < 12; start++) {
            dueTold("mixed " + start, Systems.fullMixed(start));
        }
    }

    private static void dueTold(String what, long[][] rows) {
        boolean want = Model.determinantOf(rows, -1).signum() != 0;
        EquationDesk desk = Checks.desk(rows);
        Checks.due("solve() of " + what, desk.solve(), want);
        Checks.dueThrow("determinant() of " + what, want ? Checks.NOTHING : Checks.STATE, () -> desk.determinant());
    }

    /** "whether it is not SINGULAR": two rows, or two columns, that differ nowhere or in the last bit of a place */
    private static void tellsWhereOnePlaceDecides() {
        for (int n = 2; n <= 12; n++) {
            long[][] rows = Systems.diagonal(n, GREATEST, LEAST, 0L);
            rows[n - 1] = rows[0].clone();
            Checks.due("solve() of two rows alike, n " + n, Checks.desk(rows).solve(), false);
            rows[n - 1][n - 1]++;
            dueTold("two rows alike but for a bit, n " + n, rows);
            Checks.due("solve() of two rows alike but for a bit, n " + n, Checks.desk(rows).solve(), true);
            long[][] columns = Systems.diagonal(n, GREATEST, LEAST, 0L);
            for (long[] row : columns) {
                row[n - 1] = row[0];
            }
            Checks.due("solve() of two columns alike, n " + n, Checks.desk(columns).solve(), false);
        }
    }

    /** "whether it is not SINGULAR": the right sides have no say */
    private static void tellsByTheCoefficientsAlone() {
        for (long right : new long[] {LEAST, 0L, GREATEST}) {
            EquationDesk fine = Checks.desk(Systems.diagonal(3, 2L, 1L, right));
            Checks.due("solve() with the right side " + right, fine.solve(), true);
            EquationDesk singular = Checks.desk(Systems.diagonal(3, 1L, 1L, right));
            Checks.due("solve() of rows alike with the right side " + right, singular.solve(), false);
        }
    }

    /** "if it is it is not solved": and remains so however often it is asked */
    private static void singularIsNotSolved() {
        for (int n = 1; n <= 12; n++) {
            EquationDesk desk = Checks.desk(Systems.same(n, n % 2 == 0 ? 0L : 1L));
            if (n == 1) {
                desk.put(0, 0, 0L);
            }
            dueNotSolved("n " + n, desk);
            dueNotSolved("n " + n + " again", desk);
        }
    }

    private static void dueNotSolved(String what, EquationDesk desk) {
        Checks.due("solve() of " + what, desk.solve(), false);
        Checks.dueThrow("determinant() of " + what, Checks.STATE, () -> desk.determinant());
        Checks.dueThrow("unknown(0) of " + what, Checks.STATE, () -> desk.unknown(0));
        Checks.dueThrow("compare(0, 0) of " + what, Checks.STATE, () -> desk.compare(0, 0));
    }

    /** "if it is it is not solved": what was solved before does not shine through, nor get lost */
    private static void singularBehindSolvedIsNotSolved() {
        Twin twin = new Twin().fill(Systems.diagonal(3, 2L, 1L, 5L)).solve().unknown(2);
        twin.put(0, 0, 1L).put(1, 1, 1L);
        dueNotSolved("a system that was solved", twin.desk);
        twin.dueResult("the result behind the singular solve()");
        twin.put(0, 0, 2L).put(1, 1, 2L).solve().unknown(0).dueResult("unknown 0 of it as it was");
        twin.determinant().dueResult("the determinant of it as it was");
    }

    /** "with n 0 it is" */
    private static void withNoUnknownsItIsSolved() {
        EquationDesk desk = new EquationDesk();
        Checks.due("solve() with n 0", desk.solve(), true);
        Checks.dueThrow("determinant() with n 0", Checks.NOTHING, () -> desk.determinant());
        EquationDesk emptied = Checks.desk(Systems.same(12, LEAST));
        Checks.due("solve() with n 12", emptied.solve(), false);
        emptied.size(0);
        Checks.due("solve() with n 0 behind n 12", emptied.solve(), true);
        Checks.dueThrow("determinant() with n 0 behind n 12", Checks.NOTHING, () -> emptied.determinant());
    }
}
