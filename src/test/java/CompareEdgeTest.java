/** The boundary cases of promise 7, a sentence each. */
public final class CompareEdgeTest {
    private static final long LEAST = Systems.LEAST;
    private static final long GREATEST = Systems.GREATEST;

    public static void main(String[] args) {
        ordersTheEndsOfLong();
        ordersQuotients();
        ordersFullSystems();
        eachUnknownIsTheSameAsItself();
        isNotSolvedComesFirst();
        takesTheFirstAndTheLast();
        refusesTheFirstOnesBeyond();
        Checks.end("CompareEdgeTest");
    }

    /** "-1, 0, 1: unknown j is less than k, the same, greater.": no difference of two longs wraps around */
    private static void ordersTheEndsOfLong() {
        long[] values = {LEAST, LEAST, LEAST + 1, -(1L << 62), -1, 0, 0, 1, 1L << 31, 1L << 62, GREATEST - 1, GREATEST};
        EquationDesk desk = new EquationDesk();
        desk.size(12);
        for (int i = 0; i < 12; i++) {
            desk.put(i, i, 1L);
            desk.put(i, 12, values[i]);
        }
        desk.solve();
        for (int j = 0; j < 12; j++) {
            for (int k = 0; k < 12; k++) {
                String what = "compare of " + values[j] + " and " + values[k];
                Checks.due(what, desk.compare(j, k), Long.compare(values[j], values[k]));
            }
        }
    }

    /** "-1, 0, 1": quotients, of either sign, that differ in nothing or in very little */
    private static void ordersQuotients() {
        dueOrder(0, Checks.row(LEAST, LEAST), Checks.row(GREATEST, GREATEST));
        dueOrder(0, Checks.row(LEAST, 0), Checks.row(GREATEST, 0));
        dueOrder(0, Checks.row(-2, 1), Checks.row(1L << 62, -(1L << 61)));
        dueOrder(1, Checks.row(-1, LEAST), Checks.row(1, GREATEST));
        dueOrder(-1, Checks.row(-1, GREATEST), Checks.row(-1, LEAST));
        dueOrder(-1, Checks.row(GREATEST, GREATEST - 1), Checks.row(LEAST, LEAST));
        dueOrder(-1, Checks.row(GREATEST, GREATEST - 1), Checks.row(LEAST, -GREATEST));
        dueOrder(-1, Checks.row(GREATEST, -1), Checks.row(LEAST, 1));
        dueOrder(1, Checks.row(GREATEST, 1), Checks.row(LEAST, 0));
        dueOrder(-1, Checks.row(LEAST, 1), Checks.row(LEAST, 0));
    }

    /** Two rows, each with its own unknown: the coefficient and the right side. */
    private static void dueOrder(int want, long[] one, long[] other) {
        EquationDesk desk = Checks.desk(Checks.row(one[0], 0, one[1]), Checks.row(0, other[0], other[1]));
        desk.solve();
        String what = " of " + one[1] + " / " + one[0] + " and " + other[1] + " / " + other[0];
        Checks.due("compare(0, 1)" + what, desk.compare(0, 1), want);
        Checks.due("compare(1, 0)" + what, desk.compare(1, 0), -want);
    }

    /** "-1, 0, 1": of SYSTEMS full of the least and the greatest long, with determinants of either sign */
    private static void ordersFullSystems() {
        dueAllOrders(Systems.fullPaley());
        long[][] changed = Systems.fullPaley();
        changed[0] = Systems.fullPaley()[1];
        changed[1] = Systems.fullPaley()[0];
        dueAllOrders(changed);
        dueAllOrders(Systems.diagonal(12, LEAST, GREATEST, LEAST));
        dueAllOrders(Systems.fullMixed(4L));
    }

    private static void dueAllOrders(long[][] rows) {
        Twin twin = new Twin().fill(rows).solve();
        Checks.due("the system is not singular", twin.model.solved, true);
        for (int j = 0; j < 12; j++) {
            for (int k = 0; k < 12; k++) {
                twin.compare(j, k);
            }
        }
        twin.dueResult("the result behind compare");
    }

    /** "the same": j and k may be one unknown */
    private static void eachUnknownIsTheSameAsItself() {
        for (int n = 1; n <= 12; n++) {
            EquationDesk desk = Checks.desk(Systems.diagonal(n, LEAST, 1L, GREATEST));
            desk.solve();
            for (int k = 0; k < n; k++) {
                Checks.due("compare(" + k + ", " + k + ")", desk.compare(k, k), 0);
            }
        }
    }

    /** "IllegalStateException ... likewise.": first, it is not solved */
    private static void isNotSolvedComesFirst() {
        int[] each = {Integer.MIN_VALUE, -1, 0, 1, 2, 13, Integer.MAX_VALUE};
        for (int j : each) {
            for (int k : each) {
                dueStateFirst("a new desk", new Twin(), j, k);
                dueStateFirst("a desk behind put", new Twin().fill(Checks.row(2, 0, 3), Checks.row(0, 4, 5)), j, k);
                Twin again = new Twin().fill(Checks.row(2, 3)).solve().unknown(0).put(0, 0, 2L);
                dueStateFirst("a desk behind another put", again, j, k);
                dueStateFirst("a singular desk", new Twin().fill(Systems.same(2, 1L)).solve(), j, k);
            }
        }
    }

    private static void dueStateFirst(String on, Twin twin, int j, int k) {
        String what = "compare(" + j + ", " + k + ") on " + on;
        Checks.dueThrow(what, Checks.STATE, () -> twin.desk.compare(j, k));
        twin.dueAll(what);
    }

    /** "IndexOutOfBoundsException likewise.": the ends themselves are there */
    private static void takesTheFirstAndTheLast() {
        for (int n = 2; n <= 12; n++) {
            EquationDesk desk = Checks.desk(Systems.unit(n, 0L));
            desk.put(0, n, LEAST);
            desk.put(n - 1, n, GREATEST);
            desk.solve();
            Checks.due("compare(0, n - 1) with n " + n, desk.compare(0, n - 1), -1);
            Checks.due("compare(n - 1, 0) with n " + n, desk.compare(n - 1, 0), 1);
        }
    }

    /** "IndexOutOfBoundsException likewise.": there is none, be it j or k or both */
    private static void refusesTheFirstOnesBeyond() {
        for (int n = 0; n <= 12; n++) {
            for (int k : new int[] {-1, n, n + 1, Integer.MIN_VALUE, Integer.MAX_VALUE}) {
                dueRefused(n, k, k);
                if (n > 0) {
                    dueRefused(n, k, 0);
                    dueRefused(n, 0, k);
                    dueRefused(n, n - 1, k);
                    dueRefused(n, k, n - 1);
                }
            }
        }
    }

    private static void dueRefused(int n, int j, int k) {
        Twin twin = new Twin().fill(Systems.diagonal(n, 3L, 1L, 5L)).solve().determinant();
        String what = "compare(" + j + ", " + k + ") with n " + n;
        Checks.dueThrow(what, Checks.INDEX, () -> twin.desk.compare(j, k));
        twin.dueAll(what);
    }
}
