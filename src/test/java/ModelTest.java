/** All promises: long runs of calls, the same on a desk and on the model. */
public final class ModelTest {
    // An object's last calls are left out, so that no step goes beyond its 512th.
    private static final int MOST_CALLS = 512 - 40;
    private static final int SMALL_RUNS = 1500;
    private static final int LARGE_SYSTEMS = 42;

    private long seed;
    private int calls = 0;
    private final EquationDesk desk = new EquationDesk();
    private final Model model = new Model();

    private ModelTest(long seed) {
        this.seed = seed;
    }

    public static void main(String[] args) {
        for (int run = 0; run < SMALL_RUNS; run++) {
            new ModelTest(run).mixedRun(run % 7);
        }
        for (int run = 0; run < LARGE_SYSTEMS; run++) {
            new ModelTest(-1L - run).largeSystem(run % 7, 7 + run % 6);
        }
        Checks.end("ModelTest");
    }

    /** Numbers that only look random: every run of the test is the same. */
    private long next() {
        seed = seed * 6364136223846793005L + 1442695040888963407L;
        long mixed = (seed ^ seed >>> 31) * 0x9E3779B97F4A7C15L;
        return mixed ^ mixed >>> 29;
    }

    private int below(int bound) {
        return (int) Long.remainderUnsigned(next(), bound);
    }

    private long value(int kind) {
        switch (kind) {
            case 0:
                return below(3) - 1;
            case 1:
                return below(21) - 10;
            case 2:
                return next();
            case 3:
                return next() >> below(64);
            case 4:
                return (next() & 1) == 0 ? Long.MIN_VALUE : Long.MAX_VALUE;
            case 5:
                return (below(5) - 2L) << below(62);
            default:
                return below(3) == 0 ? next() : 0L;
        }
    }

    private void mixedRun(int kind) {
        int most = 1 + below(6);
        resize(below(most + 1));
        while (calls < MOST_CALLS) {
            int pick = below(100);
            calls += 3;
            if (pick < 1) {
                resize(below(most + 1));
            } else if (pick < 2) {
                dueRefused();
            } else if (pick < 55) {
                putOne(value(kind));
            } else if (pick < 65) {
                Checks.due("solve()", desk.solve(), model.solve());
            } else if (pick < 80) {
                askUnknown(below(most + 2) - 1);
            } else if (pick < 88) {
                askDeterminant();
            } else {
                askCompare(below(most + 2) - 1, below(most + 2) - 1);
            }
            Checks.due("bits(false)", desk.bits(false), model.above.abs().bitLength());
            Checks.due("bits(true)", desk.bits(true), model.below.bitLength());
        }
    }

    private void largeSystem(int kind, int n) {
        resize(n);
        for (int i = 0; i < n; i++) {
            for (int j = 0; j <= n; j++) {
                long v = value(kind);
                Checks.due("put", desk.put(i, j, v), model.put(i, j, v));
            }
        }
        Checks.due("solve()", desk.solve(), model.solve());
        askDeterminant();
        askUnknown(0);
        askUnknown(n - 1);
        askUnknown(below(n));
        askCompare(below(n), below(n));
    }

    private void resize(int n) {
        desk.size(n);
        model.size(n);
    }

    private void dueRefused() {
        calls += 2;
        Checks.dueThrow("size(13)", Checks.ARGUMENT, () -> desk.size(13));
        Checks.dueThrow("put(n, 0)", Checks.INDEX, () -> desk.put(model.n, 0, 1L));
        Checks.dueThrow("part(false, -1)", Checks.INDEX, () -> desk.part(false, -1));
    }

    private void putOne(long v) {
        if (model.n > 0) {
            int i = below(model.n);
            int j = below(model.n + 1);
            Checks.due("put(" + i + ", " + j + ", " + v + ")", desk.put(i, j, v), model.put(i, j, v));
        }
    }

    private void askUnknown(int k) {
        String throwing = !model.solved ? Checks.STATE : !model.has(k) ? Checks.INDEX : Checks.NOTHING;
        if (throwing.equals(Checks.NOTHING)) {
            Checks.due("unknown(" + k + ")", desk.unknown(k), model.unknown(k));
        } else {
            Checks.dueThrow("unknown(" + k + ")", throwing, () -> desk.unknown(k));
        }
        calls += Checks.dueResult("unknown " + k, desk, model.above, model.below);
    }

    private void askDeterminant() {
        if (model.solved) {
            Checks.due("determinant()", desk.determinant(), model.determinant());
        } else {
            Checks.dueThrow("determinant()", Checks.STATE, () -> desk.determinant());
        }
        calls += Checks.dueResult("determinant", desk, model.above, model.below);
    }

    private void askCompare(int j, int k) {
        boolean there = model.has(j) && model.has(k);
        String what = "compare(" + j + ", " + k + ")";
        if (model.solved && there) {
            Checks.due(what, desk.compare(j, k), model.compare(j, k));
        } else {
            Checks.dueThrow(what, model.solved ? Checks.INDEX : Checks.STATE, () -> desk.compare(j, k));
        }
    }
}
