/** The sentences of the document in runs of calls, not in single ones: systems of twelve that come after others. */
public final class RunsTest {
    private static final int MOST = Systems.MOST;

    public static void main(String[] args) {
        behindASingularSystem();
        behindASystemSingularInItsLastColumn();
        behindSizeOnASolvedSystem();
        behindPutOnASolvedSystem();
        behindRefusedCallsOnASolvedSystem();
        theResultOutlivesItsSystem();
        Checks.end("RunsTest");
    }

    /** A solve() that gave up leaves the SYSTEM itself as it was: put and solve() go on from there. */
    private static void behindASingularSystem() {
        Twin twin = new Twin().fill(Systems.same(MOST, Systems.LEAST)).solve();
        // Behind the last of these only one row is still what it was, and it is not SINGULAR any more.
        for (int i = 0; i < MOST - 1; i++) {
            dueNotSolved("a singular solve()", twin.desk);
            twin.put(i, i, Systems.GREATEST).solve();
        }
        dueUnknowns("behind singular systems", twin);
    }

    /** Here all but the last column is done before solve() finds that it is SINGULAR. */
    private static void behindASystemSingularInItsLastColumn() {
        long[][] rows = Systems.fullPaley();
        rows[MOST - 1] = rows[MOST - 2].clone();
        Twin twin = new Twin().fill(rows).solve();
        dueNotSolved("a system singular in its last column", twin.desk);
        twin.solve();
        dueNotSolved("the same system once more", twin.desk);
        twin.put(MOST - 1, 0, 0L).solve();
        dueUnknowns("behind a system singular in its last column", twin);
    }

    private static void behindSizeOnASolvedSystem() {
        for (int n : new int[] {0, 1, 2, 7, 11, 12}) {
            Twin twin = new Twin().fill(Systems.fullPaley()).solve().unknown(3);
            twin.size(n);
            dueNotSolved("size(" + n + ")", twin.desk);
            twin.solve().dueResult("the result behind size(" + n + ") and solve()");
            twin.fill(Systems.diagonal(n, -5L, 2L, 3L)).solve();
            dueUnknowns("behind size(" + n + ")", twin);
        }
    }

    /** Each place of the last row in turn; the same number, another one, and then the one that was there. */
    private static void behindPutOnASolvedSystem() {
        for (int j = 0; j <= MOST; j += 3) {
            long[][] rows = Systems.fullMixed(2L);
            Twin twin = new Twin().fill(rows).solve().determinant();
            dueBehindPut(twin, j, rows[MOST - 1][j]);
            dueBehindPut(twin, j, 17L);
            dueUnknowns("behind put(11, " + j + ", 17)", twin);
            dueBehindPut(twin, j, rows[MOST - 1][j]);
            dueUnknowns("behind put(11, " + j + ") of what it was", twin);
        }
    }

    private static void dueBehindPut(Twin twin, int j, long v) {
        twin.put(MOST - 1, j, v);
        dueNotSolved("put(11, " + j + ", " + v + ")", twin.desk);
        twin.solve();
    }

    private static void behindRefusedCallsOnASolvedSystem() {
        Twin twin = new Twin().fill(Systems.fullPaley()).solve().unknown(5);
        EquationDesk desk = twin.desk;
        Checks.dueThrow("size(13)", Checks.ARGUMENT, () -> desk.size(13));
        Checks.dueThrow("put(12, 0)", Checks.INDEX, () -> desk.put(12, 0, 1L));
        Checks.dueThrow("put(0, 13)", Checks.INDEX, () -> desk.put(0, 13, 1L));
        Checks.dueThrow("unknown(12)", Checks.INDEX, () -> desk.unknown(12));
        Checks.dueThrow("compare(0, 12)", Checks.INDEX, () -> desk.compare(0, 12));
        Checks.dueThrow("part(false, -1)", Checks.INDEX, () -> desk.part(false, -1));
        twin.dueResult("the result behind refused calls");
        dueUnknowns("behind refused calls", twin);
    }

    /** "it stays till the next unknown() or determinant()": all its parts, though the numbers it came from are gone. */
    private static void theResultOutlivesItsSystem() {
        Twin twin = new Twin().fill(Systems.fullPaley()).solve().unknown(7);
        twin.fill(Systems.unit(9, -1L)).solve().compare(0, 8);
        twin.dueResult("an unknown behind another system");
        twin.size(12).solve().dueResult("an unknown behind a singular system");
        twin.size(0).solve().determinant().dueResult("the next determinant");
    }

    private static void dueNotSolved(String what, EquationDesk desk) {
        Checks.dueThrow("unknown(0) behind " + what, Checks.STATE, () -> desk.unknown(0));
        Checks.dueThrow("determinant() behind " + what, Checks.STATE, () -> desk.determinant());
        Checks.dueThrow("compare(0, 0) behind " + what, Checks.STATE, () -> desk.compare(0, 0));
    }

    /** Each unknown and the determinant, by the bits and the lowest parts, as a desk has but 512 calls. */
    private static void dueUnknowns(String what, Twin twin) {
        for (int k = 0; k < twin.model.n; k++) {
            twin.unknown(k).dueBits("unknown " + k + " " + what);
            twin.compare(0, k);
        }
        twin.determinant().dueBits("determinant " + what);
    }
}
