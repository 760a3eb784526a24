/** Promise 1: a new object. */
public final class NewObjectTest {
    public static void main(String[] args) {
        isNotSolved();
        hasNoUnknowns();
        hasTheResultZero();
        sharesNothing();
        Checks.end("NewObjectTest");
    }

    private static void isNotSolved() {
        EquationDesk desk = new EquationDesk();
        Checks.dueThrow("determinant() of a new desk", Checks.STATE, () -> desk.determinant());
        Checks.dueThrow("unknown(0) of a new desk", Checks.STATE, () -> desk.unknown(0));
        Checks.dueThrow("compare(0, 0) of a new desk", Checks.STATE, () -> desk.compare(0, 0));
    }

    private static void hasNoUnknowns() {
        EquationDesk desk = new EquationDesk();
        Checks.dueThrow("put(0, 0, 1) of a new desk", Checks.INDEX, () -> desk.put(0, 0, 1L));
        Checks.due("solve() of a new desk", desk.solve(), true);
        Checks.dueThrow("unknown(0) with n 0", Checks.INDEX, () -> desk.unknown(0));
        Checks.due("determinant() with n 0", desk.determinant(), 1);
        Checks.dueResult("the determinant with n 0", desk, 1, 1);
    }

    private static void hasTheResultZero() {
        EquationDesk desk = new EquationDesk();
        Checks.dueResult("the result of a new desk", desk, 0, 1);
        desk.solve();
        Checks.dueResult("the result behind solve()", desk, 0, 1);
    }

    private static void sharesNothing() {
        EquationDesk one = Checks.desk(Checks.row(5, 10));
        EquationDesk two = new EquationDesk();
        one.solve();
        one.unknown(0);
        two.size(1);
        Checks.due("put of another desk", two.put(0, 0, 1L), 0L);
        Checks.dueThrow("determinant() of another desk", Checks.STATE, () -> two.determinant());
        Checks.dueResult("the result of another desk", two, 0, 1);
        Checks.dueResult("the result of the first desk", one, 2, 1);
    }
}
