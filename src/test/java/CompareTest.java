/** Promise 7: compare. */
public final class CompareTest {
    public static void main(String[] args) {
        ordersUnknowns();
        ordersWithANegativeDeterminant();
        ordersCloseNumbers();
        keepsTheResult();
        refusesBeforeSolve();
        refusesOtherUnknowns();
        Checks.end("CompareTest");
    }

    private static void ordersUnknowns() {
        long[] values = {-7, -7, -1, 0, 0, 1, 2, 2, 900, 1L << 40, Long.MAX_VALUE, Long.MIN_VALUE};
        dueOrder(values, 1L);
        dueOrder(values, 3L);
    }

    /** The numerators over such a determinant stand in the other order. */
    private static void ordersWithANegativeDeterminant() {
        dueOrder(new long[] {-7, -1, 0, 0, 1, 1, 2, 5}, -1L);
    }

    private static void dueOrder(long[] values, long firstCoefficient) {
        int n = values.length;
        EquationDesk desk = new EquationDesk();
        desk.size(n);
        for (int i = 0; i < n; i++) {
            desk.put(i, i, i == 0 ? firstCoefficient : 1L);
            desk.put(i, n, i == 0 ? values[0] * firstCoefficient : values[i]);
        }
        desk.solve();
        for (int j = 0; j < n; j++) {
            for (int k = 0; k < n; k++) {
                String what = "compare of " + values[j] + " and " + values[k];
                Checks.due(what, desk.compare(j, k), Long.compare(values[j], values[k]));
            }
        }
    }

    private static void ordersCloseNumbers() {
        long max = Long.MAX_VALUE;
        // MAX / (MAX - 1) is below (MAX - 1) / (MAX - 2) by less than a double can tell.
        EquationDesk desk = Checks.desk(Checks.row(max - 1, 0, max), Checks.row(0, max - 2, max - 1));
        desk.solve();
        Checks.due("compare(0, 1) of close numbers", desk.compare(0, 1), -1);
        Checks.due("compare(1, 0) of close numbers", desk.compare(1, 0), 1);
        EquationDesk same = Checks.desk(Checks.row(2, 0, 1), Checks.row(0, -6, -3));
        same.solve();
        Checks.due("compare(0, 1) of 1 / 2 and -3 / -6", same.compare(0, 1), 0);
        EquationDesk signs = Checks.desk(Checks.row(2, 0, 1), Checks.row(0, -2, 1));
        signs.solve();
        Checks.due("compare(0, 1) of 1 / 2 and -1 / 2", signs.compare(0, 1), 1);
    }

    private static void keepsTheResult() {
        EquationDesk desk = Checks.desk(Checks.row(2, 0, 3), Checks.row(0, 4, 5));
        desk.solve();
        desk.compare(0, 1);
        Checks.dueResult("the result behind compare", desk, 0, 1);
        desk.unknown(0);
        desk.compare(1, 0);
        Checks.dueResult("the result behind another compare", desk, 3, 2);
    }

    private static void refusesBeforeSolve() {
        EquationDesk desk = Checks.desk(Checks.row(2, 0, 3), Checks.row(0, 4, 5));
        Checks.dueThrow("compare(0, 1) before solve()", Checks.STATE, () -> desk.compare(0, 1));
        Checks.dueThrow("compare(0, 2) before solve()", Checks.STATE, () -> desk.compare(0, 2));
        Checks.dueThrow("compare(-1, 0) before solve()", Checks.STATE, () -> desk.compare(-1, 0));
    }

    private static void refusesOtherUnknowns() {
        EquationDesk desk = Checks.desk(Checks.row(2, 0, 3), Checks.row(0, 4, 5));
        desk.solve();
        desk.unknown(0);
        for (int k : new int[] {-1, 2, 3, 12, 13, Integer.MIN_VALUE, Integer.MAX_VALUE}) {
            Checks.dueThrow("compare(0, " + k + ")", Checks.INDEX, () -> desk.compare(0, k));
            Checks.dueThrow("compare(" + k + ", 0)", Checks.INDEX, () -> desk.compare(k, 0));
            Checks.dueThrow("compare(" + k + ", " + k + ")", Checks.INDEX, () -> desk.compare(k, k));
        }
        Checks.dueResult("the result behind a refused compare", desk, 3, 2);
        Checks.due("compare(0, 1) behind a refused compare", desk.compare(0, 1), 1);
        EquationDesk none = new EquationDesk();
        none.solve();
        Checks.dueThrow("compare(0, 0) with n 0", Checks.INDEX, () -> none.compare(0, 0));
    }
}
