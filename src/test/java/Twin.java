import java.math.BigInteger;

/** A desk and the model beside it: each call is made on both, and the answers are compared. */
final class Twin {
    final EquationDesk desk = new EquationDesk();
    final Model model = new Model();

    Twin size(int n) {
        desk.size(n);
        model.size(n);
        return this;
    }

    Twin put(int i, int j, long v) {
        String what = "put(" + i + ", " + j + ", " + v + ")";
        Checks.due(what, desk.put(i, j, v), model.put(i, j, v));
        return this;
    }

    Twin fill(long[]... rows) {
        size(rows.length);
        for (int i = 0; i < rows.length; i++) {
            for (int j = 0; j <= rows.length; j++) {
                put(i, j, rows[i][j]);
            }
        }
        return this;
    }

    Twin solve() {
        Checks.due("solve()", desk.solve(), model.solve());
        return this;
    }

    Twin unknown(int k) {
        Checks.due("unknown(" + k + ")", desk.unknown(k), model.unknown(k));
        return this;
    }

    Twin determinant() {
        Checks.due("determinant()", desk.determinant(), model.determinant());
        return this;
    }

    Twin compare(int j, int k) {
        Checks.due("compare(" + j + ", " + k + ")", desk.compare(j, k), model.compare(j, k));
        return this;
    }

    Twin dueResult(String what) {
        Checks.dueResult(what, desk, model.above, model.below);
        return this;
    }

    /** The result, whether it is solved, its size and each place; this ends the twin's use, for asking changes it. */
    void dueAll(String what) {
        dueResult("the result behind " + what);
        dueSolved(what);
        dueSystem(what);
    }

    private void dueSolved(String what) {
        if (!model.solved) {
            Checks.dueThrow("determinant() behind " + what, Checks.STATE, () -> desk.determinant());
            Checks.dueThrow("unknown(0) behind " + what, Checks.STATE, () -> desk.unknown(0));
            return;
        }
        int last = model.n - 1;
        if (model.n > 0) {
            compare(0, last);
            Checks.due("the last unknown behind " + what, desk.unknown(last), model.unknown(last));
            dueBits(what);
        }
        Checks.due("determinant() behind " + what, desk.determinant(), model.determinant());
        dueBits(what);
    }

    /** All parts would take more calls than a desk has. */
    void dueBits(String what) {
        Checks.due("bits(false) behind " + what, desk.bits(false), model.above.abs().bitLength());
        Checks.due("bits(true) behind " + what, desk.bits(true), model.below.bitLength());
        Checks.due("part(false, 0) behind " + what, desk.part(false, 0), lowPart(model.above.abs()));
        Checks.due("part(true, 0) behind " + what, desk.part(true, 0), lowPart(model.below));
    }

    private static int lowPart(BigInteger number) {
        return number.intValue() & Integer.MAX_VALUE;
    }

    private void dueSystem(String what) {
        int n = model.n;
        Checks.dueThrow("put(n, 0) behind " + what, Checks.INDEX, () -> desk.put(n, 0, 1L));
        Checks.dueThrow("put(0, n + 1) behind " + what, Checks.INDEX, () -> desk.put(0, n + 1, 1L));
        for (int i = 0; i < n; i++) {
            for (int j = 0; j <= n; j++) {
                Checks.due("place " + i + ", " + j + " behind " + what, desk.put(i, j, 5L), model.rows[i][j]);
            }
        }
    }
}
