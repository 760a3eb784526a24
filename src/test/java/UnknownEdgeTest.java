import java.math.BigInteger;

/** The boundary cases of promise 5, a sentence each. */
public final class UnknownEdgeTest {
    private static final long LEAST = Systems.LEAST;
    private static final long GREATEST = Systems.GREATEST;
    private static final long[] LONGS = {LEAST, LEAST + 1, -1, 0, 1, 1L << 31, 1L << 62, GREATEST - 1, GREATEST};

    public static void main(String[] args) {
        isTheQuotientOfAnyTwoLongs();
        isTheFirstAndTheLastOfAFullSystem();
        isAsLargeAsItCanBe();
        isNotSolvedComesFirst();
        takesTheFirstAndTheLast();
        refusesTheFirstOnesBeyond();
        Checks.end("UnknownEdgeTest");
    }

    /** "The RESULT is unknown k: its sign.": -2^63 / -1 too, which no long holds */
    private static void isTheQuotientOfAnyTwoLongs() {
        for (long coefficient : LONGS) {
            for (long right : LONGS) {
                if (coefficient != 0) {
                    Twin twin = new Twin().fill(Checks.row(coefficient, right)).solve().unknown(0);
                    twin.dueResult(right + " / " + coefficient);
                }
            }
        }
        EquationDesk desk = Checks.desk(Checks.row(-1, LEAST));
        desk.solve();
        Checks.due("the sign of -2^63 / -1", desk.unknown(0), 1);
        Checks.dueResult("-2^63 / -1", desk, BigInteger.ONE.shiftLeft(63), BigInteger.ONE);
    }

    /** "The RESULT is unknown k": of SYSTEMS full of the least and the greatest long */
    private static void isTheFirstAndTheLastOfAFullSystem() {
        dueEnds(Systems.diagonal(12, LEAST, GREATEST, LEAST));
        dueEnds(Systems.diagonal(12, GREATEST, LEAST, GREATEST));
        for (long start = 0; start < 24; start++) {
            dueEnds(Systems.fullMixed(start));
        }
    }

    private static void dueEnds(long[][] rows) {
        Twin twin = new Twin().fill(rows).solve();
        if (twin.model.solved) {
            twin.unknown(0).dueResult("unknown 0 of a full system");
            twin.unknown(11).dueResult("unknown 11 of a full system");
        }
    }

    /** "The RESULT is unknown k": both halves near Hadamard's bound, for no large divisor is common */
    private static void isAsLargeAsItCanBe() {
        long[][] rows = Systems.paley(GREATEST, LEAST);
        for (int i = 0; i < 12; i++) {
            for (int j = 0; j < 12; j++) {
                long off = 1L << (i * 5 + j * 7) % 40;
                rows[i][j] = rows[i][j] < 0 ? LEAST + off : GREATEST - off;
            }
            rows[i][12] = rows[i][0] < 0 ? LEAST : GREATEST;
        }
        Twin twin = new Twin().fill(rows).solve();
        twin.unknown(0).dueResult("a large unknown");
        Checks.due("a large numerator", twin.desk.bits(false) > 31 * 24, true);
        Checks.due("a large denominator", twin.desk.bits(true) > 31 * 24, true);
    }

    /** "IllegalStateException, first: it is not solved." */
    private static void isNotSolvedComesFirst() {
        int[] each = {Integer.MIN_VALUE, -1, 0, 1, 2, 12, 13, Integer.MAX_VALUE};
        for (int k : each) {
            dueStateFirst("a new desk", new Twin(), k);
            dueStateFirst("a desk behind put", new Twin().fill(Checks.row(2, 0, 3), Checks.row(0, 4, 5)), k);
            Twin again = new Twin().fill(Checks.row(2, 3)).solve().unknown(0).put(0, 0, 2L);
            dueStateFirst("a desk behind another put", again, k);
            dueStateFirst("a singular desk", new Twin().fill(Systems.same(2, 1L)).solve(), k);
            dueStateFirst("a desk behind size", new Twin().solve().size(12), k);
        }
    }

    private static void dueStateFirst(String on, Twin twin, int k) {
        String what = "unknown(" + k + ") on " + on;
        Checks.dueThrow(what, Checks.STATE, () -> twin.desk.unknown(k));
        twin.dueAll(what);
    }

    /** "IndexOutOfBoundsException: there is none.": the ends themselves are there */
    private static void takesTheFirstAndTheLast() {
        for (int n = 1; n <= 12; n++) {
            EquationDesk desk = Checks.desk(Systems.unit(n, 9L));
            desk.put(0, n, -7L);
            desk.put(n - 1, n, 8L);
            desk.solve();
            Checks.due("unknown(n - 1) with n " + n, desk.unknown(n - 1), 1);
            Checks.dueResult("the last unknown with n " + n, desk, 8, 1);
            Checks.due("unknown(0) with n " + n, desk.unknown(0), n == 1 ? 1 : -1);
            Checks.dueResult("the first unknown with n " + n, desk, n == 1 ? 8 : -7, 1);
        }
    }

    /** "IndexOutOfBoundsException: there is none." */
    private static void refusesTheFirstOnesBeyond() {
        for (int n = 0; n <= 12; n++) {
            for (int k : new int[] {-1, n, n + 1, Integer.MIN_VALUE, Integer.MAX_VALUE}) {
                Twin twin = new Twin().fill(Systems.diagonal(n, 3L, 1L, 5L)).solve().determinant();
                String what = "unknown(" + k + ") with n " + n;
                Checks.dueThrow(what, Checks.INDEX, () -> twin.desk.unknown(k));
                twin.dueAll(what);
            }
        }
    }
}
