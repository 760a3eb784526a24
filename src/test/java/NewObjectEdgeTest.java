/** The boundary cases of promise 1, a sentence each. */
public final class NewObjectEdgeTest {
    private static final int[] ENDS = {Integer.MIN_VALUE, -1, 0, 1, 12, 13, Integer.MAX_VALUE};

    public static void main(String[] args) {
        hasNoRow();
        hasNoUnknown();
        isNotSolved();
        isSolvedOnlyBySolve();
        Checks.end("NewObjectEdgeTest");
    }

    /** "A SYSTEM with n 0": no row, and no right side either */
    private static void hasNoRow() {
        EquationDesk desk = new EquationDesk();
        for (int i : ENDS) {
            for (int j : ENDS) {
                Checks.dueThrow("put(" + i + ", " + j + ")", Checks.INDEX, () -> desk.put(i, j, 1L));
            }
        }
    }

    /** "A SYSTEM with n 0": no unknown, even when it is solved */
    private static void hasNoUnknown() {
        EquationDesk desk = new EquationDesk();
        Checks.due("solve() of a new desk", desk.solve(), true);
        for (int k : ENDS) {
            Checks.dueThrow("unknown(" + k + ")", Checks.INDEX, () -> desk.unknown(k));
            Checks.dueThrow("compare(" + k + ", " + k + ")", Checks.INDEX, () -> desk.compare(k, k));
        }
        Checks.due("determinant() of a new desk", desk.determinant(), 1);
    }

    /** "not solved" */
    private static void isNotSolved() {
        EquationDesk desk = new EquationDesk();
        Checks.dueThrow("determinant()", Checks.STATE, () -> desk.determinant());
        for (int k : ENDS) {
            Checks.dueThrow("unknown(" + k + ")", Checks.STATE, () -> desk.unknown(k));
            Checks.dueThrow("compare(" + k + ", " + k + ")", Checks.STATE, () -> desk.compare(k, k));
        }
        Checks.dueResult("the result of a new desk", desk, 0, 1);
    }

    /** "not solved", till solve(): no other call solves it */
    private static void isSolvedOnlyBySolve() {
        EquationDesk desk = new EquationDesk();
        desk.bits(false);
        desk.part(true, 0);
        desk.size(0);
        Checks.dueThrow("determinant() before solve()", Checks.STATE, () -> desk.determinant());
        desk.solve();
        Checks.dueThrow("determinant() behind solve()", Checks.NOTHING, () -> desk.determinant());
    }
}
