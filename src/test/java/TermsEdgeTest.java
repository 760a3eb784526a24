/** The boundary cases of the sections "What it is" and "Terms", a sentence each. */
public final class TermsEdgeTest {
    private static final int MOST_CALLS = 512;

    public static void main(String[] args) {
        theLastCallsStillAnswer();
        aSystemHasThesePlacesAndNoOther();
        aSystemIsZeroAtFirst();
        aSystemHoldsTheEndsOfLong();
        singularIsADeterminantOfZero();
        withNoUnknownsTheDeterminantIsOne();
        eachUnknownOfAFullSystemIsRational();
        theDenominatorIsAboveZero();
        thereIsNoCommonDivisor();
        zeroIsZeroOverOne();
        theResultIsZeroAtFirst();
        theResultStaysBehindOtherCalls();
        theResultStaysBehindRefusedCalls();
        theFirstNamedExceptionIsThrown();
        Checks.end("TermsEdgeTest");
    }

    /** "An object is used for at most 512 calls after it has been made" */
    private static void theLastCallsStillAnswer() {
        EquationDesk desk = new EquationDesk();
        desk.size(1);
        desk.put(0, 0, 2L);
        for (int call = 2; call < MOST_CALLS - 4; call++) {
            Checks.due("put, call " + (call + 1), desk.put(0, 1, call), call == 2 ? 0L : call - 1L);
        }
        Checks.due("solve(), call 509", desk.solve(), true);
        Checks.due("unknown(0), call 510", desk.unknown(0), 1);
        Checks.due("part(false, 0), call 511", desk.part(false, 0), 507);
        Checks.due("bits(true), call 512", desk.bits(true), 2);
    }

    /** "A SYSTEM has n unknowns (0..12), n rows, in each n COEFFICIENTS and a RIGHT side" */
    private static void aSystemHasThesePlacesAndNoOther() {
        for (int n = 0; n <= 12; n++) {
            EquationDesk desk = new EquationDesk();
            desk.size(n);
            for (int i = -1; i <= n; i++) {
                for (int j = -1; j <= n + 1; j++) {
                    boolean there = i >= 0 && i < n && j >= 0 && j <= n;
                    duePlace(desk, n, i, j, there ? Checks.NOTHING : Checks.INDEX);
                }
            }
        }
    }

    private static void duePlace(EquationDesk desk, int n, int i, int j, String due) {
        Checks.dueThrow("put(" + i + ", " + j + ") with n " + n, due, () -> desk.put(i, j, 1L));
    }

    /** "all longs (0 at first)": the zeros */
    private static void aSystemIsZeroAtFirst() {
        for (int n = 1; n <= 12; n++) {
            EquationDesk desk = new EquationDesk();
            desk.size(n);
            duePlaces("at first, n " + n, desk, n, 0L, 1L);
        }
    }

    /** "all longs (0 at first)": the longs */
    private static void aSystemHoldsTheEndsOfLong() {
        EquationDesk desk = new EquationDesk();
        desk.size(12);
        duePlaces("before the least long", desk, 12, 0L, Systems.LEAST);
        duePlaces("the least long", desk, 12, Systems.LEAST, Systems.GREATEST);
        duePlaces("the greatest long", desk, 12, Systems.GREATEST, -1L);
    }

    private static void duePlaces(String what, EquationDesk desk, int n, long was, long next) {
        for (int i = 0; i < n; i++) {
            for (int j = 0; j <= n; j++) {
                Checks.due(what + ", place " + i + ", " + j, desk.put(i, j, next), was);
            }
        }
    }

    /** "It is SINGULAR if its determinant is 0": 0, and the whole numbers on both sides of it */
    private static void singularIsADeterminantOfZero() {
        long great = Systems.GREATEST;
        long[] first = Checks.row(great, great - 1, 0);
        // Determinants of -1, 0 and 1, though each product has 126 bits.
        dueDeterminant(-1, first, Checks.row(great - 1, great - 2, 0));
        dueDeterminant(1, Checks.row(great - 1, great - 2, 0), first);
        dueDeterminant(0, first, first);
        for (int n = 1; n <= 12; n++) {
            dueDeterminant(1, Systems.unit(n, 0L));
            dueDeterminant(0, Systems.same(n, 0L));
            long[][] turned = Systems.unit(n, 0L);
            turned[n - 1][n - 1] = -1L;
            dueDeterminant(-1, turned);
        }
    }

    private static void dueDeterminant(int want, long[]... rows) {
        EquationDesk desk = Checks.desk(rows);
        Checks.due("solve() of a determinant of " + want, desk.solve(), want != 0);
        if (want == 0) {
            Checks.dueThrow("determinant() of 0", Checks.STATE, () -> desk.determinant());
        } else {
            Checks.due("determinant() of " + want, desk.determinant(), want);
            Checks.dueResult("the determinant " + want, desk, want, 1);
        }
    }

    /** "(of n 0 it is 1)" */
    private static void withNoUnknownsTheDeterminantIsOne() {
        EquationDesk desk = new EquationDesk();
        desk.solve();
        Checks.due("determinant() of n 0", desk.determinant(), 1);
        Checks.dueResult("the determinant of n 0", desk, 1, 1);
        EquationDesk emptied = Checks.desk(Systems.fullPaley());
        emptied.solve();
        emptied.determinant();
        emptied.size(0);
        emptied.solve();
        Checks.due("determinant() of n 0 behind n 12", emptied.determinant(), 1);
        Checks.dueResult("the determinant of n 0 behind n 12", emptied, 1, 1);
    }

    /** "If it is not each unknown is a rational number." */
    private static void eachUnknownOfAFullSystemIsRational() {
        for (int k = 0; k < 12; k++) {
            Twin twin = new Twin().fill(Systems.fullPaley()).solve();
            twin.unknown(k).dueResult("unknown " + k + " of the full system");
        }
    }

    /** "denominator (above 0)" */
    private static void theDenominatorIsAboveZero() {
        dueQuotient(-1, 1, -1, 1);
        dueQuotient(-1, -1, 1, 1);
        dueQuotient(-1, 0, 0, 1);
        dueQuotient(-3, 2, -2, 3);
        dueQuotient(-3, -2, 2, 3);
        dueQuotient(-Systems.GREATEST, 1, -1, Systems.GREATEST);
        dueQuotient(-Systems.GREATEST, -1, 1, Systems.GREATEST);
    }

    /** "without a common divisor" */
    private static void thereIsNoCommonDivisor() {
        dueQuotient(Systems.LEAST, Systems.LEAST, 1, 1);
        dueQuotient(Systems.GREATEST, Systems.GREATEST, 1, 1);
        dueQuotient(Systems.GREATEST, -Systems.GREATEST, -1, 1);
        dueQuotient(Systems.LEAST, 1L << 62, -1, 2);
        dueQuotient(1L << 62, Systems.LEAST, -2, 1);
        // 2^63 - 1 is 7 * 7 * 73 * 127 * 337 * 92737 * 649657.
        dueQuotient(Systems.GREATEST, 7L * 7L * 73L * 127L, 1, 337L * 92737L * 649657L);
        dueQuotient(Systems.GREATEST, 7L * 7L * 7L, 7, Systems.GREATEST / 49L);
    }

    private static void dueQuotient(long coefficient, long right, long above, long below) {
        EquationDesk desk = Checks.desk(Checks.row(coefficient, right));
        desk.solve();
        String what = right + " / " + coefficient;
        Checks.due("the sign of " + what, desk.unknown(0), Long.signum(above));
        Checks.dueResult(what, desk, above, below);
    }

    /** "0 is 0 / 1." */
    private static void zeroIsZeroOverOne() {
        dueQuotient(1, 0, 0, 1);
        dueQuotient(2, 0, 0, 1);
        dueQuotient(Systems.LEAST, 0, 0, 1);
        dueQuotient(Systems.GREATEST, 0, 0, 1);
        long[][] rows = Systems.fullPaley();
        for (int i = 0; i < 12; i++) {
            rows[i][12] = rows[i][11];
        }
        // The right side is column 11: unknown 11 is 1, all others are 0.
        Twin twin = new Twin().fill(rows).solve().determinant();
        Checks.due("unknown(0) of the full system", twin.desk.unknown(0), 0);
        Checks.dueResult("unknown 0 of the full system", twin.desk, 0, 1);
        Checks.due("unknown(11) of the full system", twin.desk.unknown(11), 1);
        Checks.dueResult("unknown 11 of the full system", twin.desk, 1, 1);
        dueZeroBehindTwos();
    }

    /** A 0 divided by a great power of two, where greater numbers stood before: nothing of them may come down. */
    private static void dueZeroBehindTwos() {
        for (int twos = 1; twos < 63; twos++) {
            long power = 1L << twos;
            EquationDesk desk = Checks.desk(Checks.row(power, power + 1, 0, 5),
                    Checks.row(power - 1, power, 0, 7), Checks.row(0, 0, 1, 0));
            desk.solve();
            Checks.due("unknown(2) behind 2^" + twos, desk.unknown(2), 0);
            Checks.dueResult("unknown 2 behind 2^" + twos, desk, 0, 1);
            Checks.due("determinant() behind 2^" + twos, desk.determinant(), 1);
            Checks.dueResult("the determinant behind 2^" + twos, desk, 1, 1);
        }
    }

    /** "At first 0" */
    private static void theResultIsZeroAtFirst() {
        EquationDesk desk = new EquationDesk();
        Checks.dueResult("the result at first", desk, 0, 1);
        desk.size(12);
        desk.size(1);
        desk.put(0, 0, 3L);
        desk.put(0, 1, 4L);
        desk.solve();
        desk.compare(0, 0);
        Checks.dueResult("the result before the first unknown() or determinant()", desk, 0, 1);
    }

    /** "it stays till the next unknown() or determinant()" */
    private static void theResultStaysBehindOtherCalls() {
        Twin twin = new Twin().fill(Checks.row(-2, 0, 3), Checks.row(0, 4, 5)).solve().unknown(0);
        twin.solve().dueResult("the result behind solve()");
        twin.compare(0, 1).compare(1, 0).compare(1, 1).dueResult("the result behind compare");
        twin.put(0, 0, 0L).dueResult("the result behind put");
        twin.solve().dueResult("the result behind a singular solve()");
        twin.put(0, 0, 7L).solve().dueResult("the result behind another solve()");
        twin.size(12).dueResult("the result behind size(12)");
        twin.size(0).solve().dueResult("the result behind size(0)");
        twin.determinant().dueResult("the next determinant()");
        twin.fill(Checks.row(6, 4)).solve().unknown(0).dueResult("the next unknown()");
    }

    /** "that does not throw" */
    private static void theResultStaysBehindRefusedCalls() {
        Twin twin = new Twin().fill(Checks.row(-2, 3)).solve().unknown(0);
        EquationDesk desk = twin.desk;
        Checks.dueThrow("unknown(1)", Checks.INDEX, () -> desk.unknown(1));
        twin.dueResult("the result behind unknown(1)").put(0, 0, 9L);
        Checks.dueThrow("unknown(0), not solved", Checks.STATE, () -> desk.unknown(0));
        twin.dueResult("the result behind unknown(0), not solved");
        Checks.dueThrow("determinant(), not solved", Checks.STATE, () -> desk.determinant());
        twin.dueResult("the result behind determinant(), not solved");
    }

    /** "of several exceptions the one that it names first is thrown" */
    private static void theFirstNamedExceptionIsThrown() {
        EquationDesk desk = new EquationDesk();
        for (int k : new int[] {-1, 0, 1, 12, 13, Integer.MIN_VALUE, Integer.MAX_VALUE}) {
            Checks.dueThrow("unknown(" + k + "), not solved", Checks.STATE, () -> desk.unknown(k));
            Checks.dueThrow("compare(" + k + ", 0), not solved", Checks.STATE, () -> desk.compare(k, 0));
            Checks.dueThrow("compare(0, " + k + "), not solved", Checks.STATE, () -> desk.compare(0, k));
        }
    }
}
