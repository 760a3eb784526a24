/** Promise 3: put. */
public final class PutTest {
    public static void main(String[] args) {
        answersWhatWas();
        keepsEachPlaceApart();
        takesTheEndsOfLong();
        refusesOtherPlaces();
        refusalChangesNothing();
        isNotSolvedBehindIt();
        keepsTheResult();
        Checks.end("PutTest");
    }

    private static void answersWhatWas() {
        EquationDesk desk = new EquationDesk();
        desk.size(2);
        Checks.due("the first put", desk.put(1, 0, 7L), 0L);
        Checks.due("the second put", desk.put(1, 0, -9L), 7L);
        Checks.due("the third put", desk.put(1, 0, -9L), -9L);
        Checks.due("a put behind solve", solvedPut(desk), -9L);
    }

    private static long solvedPut(EquationDesk desk) {
        desk.solve();
        return desk.put(1, 0, 1L);
    }

    private static void keepsEachPlaceApart() {
        EquationDesk desk = new EquationDesk();
        desk.size(12);
        for (int i = 0; i < 12; i++) {
            for (int j = 0; j <= 12; j++) {
                Checks.due("put at first", desk.put(i, j, 100L * i + j + 1), 0L);
            }
        }
        for (int i = 0; i < 12; i++) {
            for (int j = 0; j <= 12; j++) {
                Checks.due("put(" + i + ", " + j + ") again", desk.put(i, j, 0L), 100L * i + j + 1);
            }
        }
    }

    private static void takesTheEndsOfLong() {
        EquationDesk desk = new EquationDesk();
        desk.size(1);
        desk.put(0, 0, Long.MIN_VALUE);
        desk.put(0, 1, Long.MAX_VALUE);
        Checks.due("Long.MIN_VALUE", desk.put(0, 0, Long.MAX_VALUE), Long.MIN_VALUE);
        Checks.due("Long.MAX_VALUE", desk.put(0, 1, Long.MIN_VALUE), Long.MAX_VALUE);
        Checks.due("solve()", desk.solve(), true);
        Checks.due("unknown(0)", desk.unknown(0), -1);
        Checks.due("bits(false)", desk.bits(false), 64);
        Checks.due("bits(true)", desk.bits(true), 63);
    }

    private static void refusesOtherPlaces() {
        EquationDesk desk = new EquationDesk();
        int[] far = {-1, Integer.MIN_VALUE, Integer.MAX_VALUE, 13, 14};
        for (int n = 0; n <= 12; n++) {
            desk.size(n);
            int size = n;
            Checks.dueThrow("put(n, 0) with n " + n, Checks.INDEX, () -> desk.put(size, 0, 1L));
            Checks.dueThrow("put(n, n) with n " + n, Checks.INDEX, () -> desk.put(size, size, 1L));
            Checks.dueThrow("put(0, n + 1) with n " + n, Checks.INDEX, () -> desk.put(0, size + 1, 1L));
            for (int x : far) {
                Checks.dueThrow("put(" + x + ", 0) with n " + n, Checks.INDEX, () -> desk.put(x, 0, 1L));
                Checks.dueThrow("put(0, " + x + ") with n " + n, Checks.INDEX, () -> desk.put(0, x, 1L));
            }
        }
    }

    private static void refusalChangesNothing() {
        EquationDesk desk = Checks.desk(Checks.row(2, 0, 3), Checks.row(0, 4, 5));
        desk.solve();
        desk.unknown(0);
        Checks.dueThrow("put(2, 0)", Checks.INDEX, () -> desk.put(2, 0, 77L));
        Checks.dueThrow("put(0, 3)", Checks.INDEX, () -> desk.put(0, 3, 77L));
        Checks.dueThrow("put(1, -1)", Checks.INDEX, () -> desk.put(1, -1, 77L));
        Checks.dueResult("the result behind a refused put", desk, 3, 2);
        Checks.due("unknown(1) behind a refused put", desk.unknown(1), 1);
        Checks.dueResult("unknown 1 behind a refused put", desk, 5, 4);
        Checks.due("row 0, right side", desk.put(0, 2, 0L), 3L);
        Checks.due("row 1, first", desk.put(1, 0, 0L), 0L);
    }

    private static void isNotSolvedBehindIt() {
        EquationDesk desk = Checks.desk(Checks.row(2, 3));
        desk.solve();
        desk.put(0, 0, 2L);
        Checks.dueThrow("unknown(0) behind a put of the same", Checks.STATE, () -> desk.unknown(0));
        Checks.due("solve() again", desk.solve(), true);
        desk.put(0, 1, 8L);
        Checks.dueThrow("determinant() behind a put of the right side", Checks.STATE, () -> desk.determinant());
        Checks.dueThrow("compare(0, 0) behind it", Checks.STATE, () -> desk.compare(0, 0));
        desk.solve();
        Checks.due("unknown(0)", desk.unknown(0), 1);
        Checks.dueResult("the unknown with the new right side", desk, 4, 1);
    }

    private static void keepsTheResult() {
        EquationDesk desk = Checks.desk(Checks.row(2, 3));
        desk.solve();
        desk.unknown(0);
        desk.put(0, 0, 9L);
        Checks.dueResult("the result behind put", desk, 3, 2);
    }
}
