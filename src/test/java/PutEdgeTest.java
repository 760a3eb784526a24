/** The boundary cases of promise 3, a sentence each. */
public final class PutEdgeTest {
    private static final long[] LONGS = {
        Long.MIN_VALUE, Long.MIN_VALUE + 1, Integer.MIN_VALUE, -1, 0, 1, Integer.MAX_VALUE, 1L << 31, 1L << 32,
        1L << 62, Long.MAX_VALUE - 1, Long.MAX_VALUE
    };

    public static void main(String[] args) {
        placeNIsTheRightSide();
        theLastCoefficientIsNot();
        answersWhatItWas();
        isNotSolvedAnyMore();
        isNotSolvedAnyMoreByTheSame();
        takesTheFirstAndTheLastPlace();
        refusesTheFirstPlacesBeyond();
        refusesAllWithNoUnknowns();
        Checks.end("PutEdgeTest");
    }

    /** "(j n: the RIGHT side)": in the first row and in the last one, for each n */
    private static void placeNIsTheRightSide() {
        for (int n = 1; n <= 12; n++) {
            for (int row : new int[] {0, n - 1}) {
                EquationDesk desk = Checks.desk(Systems.unit(n, 0L));
                Checks.due("the right side before", desk.put(row, n, Systems.LEAST), 0L);
                desk.solve();
                Checks.due("unknown(" + row + ") with n " + n, desk.unknown(row), -1);
                Checks.due("bits(false) with n " + n, desk.bits(false), 64);
                desk.determinant();
                Checks.dueResult("the determinant with n " + n, desk, 1, 1);
                Checks.due("the right side behind it", desk.put(row, n, 0L), Systems.LEAST);
            }
        }
    }

    /** "COEFFICIENT j of row i": place n - 1 is still a coefficient */
    private static void theLastCoefficientIsNot() {
        for (int n = 1; n <= 12; n++) {
            EquationDesk desk = Checks.desk(Systems.unit(n, 0L));
            Checks.due("the last coefficient before", desk.put(n - 1, n - 1, Systems.GREATEST), 1L);
            desk.solve();
            desk.determinant();
            Checks.dueResult("the determinant with n " + n, desk, Systems.GREATEST, 1);
        }
    }

    /** "is v: what it was": each long at each corner */
    private static void answersWhatItWas() {
        EquationDesk desk = new EquationDesk();
        desk.size(12);
        long was = 0L;
        for (long v : LONGS) {
            Checks.due("place 0, 0", desk.put(0, 0, v), was);
            Checks.due("place 0, 12", desk.put(0, 12, v), was);
            Checks.due("place 11, 0", desk.put(11, 0, v), was);
            Checks.due("place 11, 12", desk.put(11, 12, v), was);
            was = v;
        }
    }

    /** "it is not solved any more": whichever place it is, though the unknowns stay what they were */
    private static void isNotSolvedAnyMore() {
        for (int i = 0; i < 12; i++) {
            EquationDesk desk = Checks.desk(Systems.unit(12, 1L));
            for (int j = 0; j <= 12; j++) {
                desk.solve();
                desk.put(i, j, 2L);
                dueNotSolved("put(" + i + ", " + j + ", 2)", desk);
            }
        }
    }

    /** "(also if v is what it was)" */
    private static void isNotSolvedAnyMoreByTheSame() {
        for (int i = 0; i < 12; i++) {
            EquationDesk desk = Checks.desk(Systems.unit(12, 1L));
            for (int j = 0; j <= 12; j++) {
                long was = i == j || j == 12 ? 1L : 0L;
                Checks.due("solve()", desk.solve(), true);
                Checks.due("put of the same", desk.put(i, j, was), was);
                dueNotSolved("put(" + i + ", " + j + ") of the same", desk);
            }
        }
    }

    private static void dueNotSolved(String what, EquationDesk desk) {
        Checks.dueThrow("determinant() behind " + what, Checks.STATE, () -> desk.determinant());
        Checks.dueThrow("unknown(0) behind " + what, Checks.STATE, () -> desk.unknown(0));
        Checks.dueThrow("compare(0, 1) behind " + what, Checks.STATE, () -> desk.compare(0, 1));
    }

    /** "IndexOutOfBoundsException: there is none.": the ends themselves are there */
    private static void takesTheFirstAndTheLastPlace() {
        for (int n = 1; n <= 12; n++) {
            EquationDesk desk = new EquationDesk();
            desk.size(n);
            int[][] corners = {{0, 0}, {0, n}, {n - 1, 0}, {n - 1, n}};
            for (int[] corner : corners) {
                String what = "put(" + corner[0] + ", " + corner[1] + ") with n " + n;
                Checks.dueThrow(what, Checks.NOTHING, () -> desk.put(corner[0], corner[1], 1L));
            }
        }
    }

    /** "IndexOutOfBoundsException: there is none." */
    private static void refusesTheFirstPlacesBeyond() {
        for (int n = 1; n <= 12; n++) {
            int[][] beyond = {
                {-1, 0}, {0, -1}, {n, 0}, {0, n + 1}, {n - 1, n + 1}, {n, n}, {-1, n}, {n - 1, -1}, {1, -13},
                {-1, 13}, {Integer.MIN_VALUE, 0}, {0, Integer.MIN_VALUE}, {Integer.MAX_VALUE, 0},
                {0, Integer.MAX_VALUE}, {Integer.MAX_VALUE, Integer.MAX_VALUE}
            };
            for (int[] place : beyond) {
                dueRefused(n, place[0], place[1]);
            }
        }
    }

    private static void dueRefused(int n, int i, int j) {
        Twin twin = new Twin().fill(Systems.diagonal(n, 3L, 1L, 5L)).solve().unknown(n - 1);
        String what = "put(" + i + ", " + j + ", 77) with n " + n;
        Checks.dueThrow(what, Checks.INDEX, () -> twin.desk.put(i, j, 77L));
        twin.dueAll(what);
    }

    /** "there is none": with n 0 not even a right side at place 0 */
    private static void refusesAllWithNoUnknowns() {
        EquationDesk desk = Checks.desk(Systems.fullPaley());
        desk.size(0);
        desk.solve();
        Checks.dueThrow("put(0, 0) with n 0", Checks.INDEX, () -> desk.put(0, 0, 1L));
        Checks.dueThrow("put(0, 1) with n 0", Checks.INDEX, () -> desk.put(0, 1, 1L));
        Checks.dueThrow("put(-1, 0) with n 0", Checks.INDEX, () -> desk.put(-1, 0, 1L));
        Checks.due("determinant() behind refused puts", desk.determinant(), 1);
    }
}
