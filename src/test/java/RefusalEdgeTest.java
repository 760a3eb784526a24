import java.util.ArrayList;
import java.util.List;
import java.util.function.Consumer;

/**
 * Terms: "A call that throws changes nothing." Each kind of call that can be refused,
 * in states of many kinds, each time on a new desk, which is then looked through.
 */
public final class RefusalEdgeTest {
    private static final int MIN = Integer.MIN_VALUE;
    private static final int MAX = Integer.MAX_VALUE;
    private static final String[] STATES = {
        "a new desk", "n 0, solved", "n 0, solved, its determinant asked", "n 1, not solved",
        "n 2, solved, an unknown asked", "n 2, not solved by a put of the same", "n 2, singular",
        "n 12, all 0", "n 12, full, solved, an unknown asked", "n 12, full, solved, its determinant asked",
        "n 12, full, singular", "n 12 behind n 3, solved"
    };

    private record Call(String text, String due, Consumer<EquationDesk> on) {
    }

    public static void main(String[] args) {
        for (int state = 0; state < STATES.length; state++) {
            Twin asked = inState(state);
            for (Call call : refusedCalls(asked.model.n, asked.model.solved)) {
                dueRefused(state, call);
            }
        }
        Checks.end("RefusalEdgeTest");
    }

    private static void dueRefused(int state, Call call) {
        Twin twin = inState(state);
        String what = call.text + " on " + STATES[state];
        Checks.dueThrow(what, call.due, () -> call.on.accept(twin.desk));
        twin.dueAll(what);
    }

    private static Twin inState(int state) {
        Twin twin = new Twin();
        switch (state) {
            case 0:
                return twin;
            case 1:
                return twin.solve();
            case 2:
                return twin.solve().determinant();
            case 3:
                return small(twin).unknown(0).size(1).put(0, 0, 4L).put(0, 1, Systems.LEAST);
            case 4:
                return small(twin).unknown(0);
            case 5:
                return small(twin).unknown(1).put(1, 2, 5L);
            case 6:
                return small(twin).determinant().put(0, 0, 0L).solve();
            case 7:
                return twin.size(12);
            case 8:
                return twin.fill(Systems.fullPaley()).solve().unknown(11);
            case 9:
                return twin.fill(Systems.fullMixed(4L)).solve().determinant();
            case 10:
                return twin.fill(Systems.same(12, Systems.LEAST)).solve();
            default:
                return twin.fill(Systems.unit(3, 7L)).solve().unknown(2).fill(Systems.unit(12, -3L)).solve();
        }
    }

    private static Twin small(Twin twin) {
        return twin.fill(Checks.row(-2, 0, 3), Checks.row(0, 4, 5)).solve();
    }

    private static List<Call> refusedCalls(int n, boolean solved) {
        List<Call> calls = new ArrayList<>();
        addSizes(calls);
        addPuts(calls, n);
        addUnknowns(calls, n, solved);
        addCompares(calls, n, solved);
        addParts(calls);
        if (!solved) {
            calls.add(new Call("determinant()", Checks.STATE, desk -> desk.determinant()));
        }
        return calls;
    }

    private static void addSizes(List<Call> calls) {
        for (int size : new int[] {-1, 13, MIN, MAX}) {
            calls.add(new Call("size(" + size + ")", Checks.ARGUMENT, desk -> desk.size(size)));
        }
    }

    private static void addPuts(List<Call> calls, int n) {
        int[][] places = {
            {-1, 0}, {n, 0}, {n, n}, {MIN, 0}, {MAX, 0}, {-1, 1}, {1, -1}, {0, -1}, {n - 1, -1},
            {0, n + 1}, {n - 1, n + 1}, {0, MIN}, {0, MAX}, {MAX, MAX}, {MIN, MIN}, {-1, n + 1}
        };
        for (int[] place : places) {
            int i = place[0];
            int j = place[1];
            calls.add(new Call("put(" + i + ", " + j + ", 77)", Checks.INDEX, desk -> desk.put(i, j, 77L)));
        }
    }

    private static void addUnknowns(List<Call> calls, int n, boolean solved) {
        for (int k : new int[] {-1, 0, n - 1, n, 13, MIN, MAX}) {
            if (!solved || k < 0 || k >= n) {
                String due = solved ? Checks.INDEX : Checks.STATE;
                calls.add(new Call("unknown(" + k + ")", due, desk -> desk.unknown(k)));
            }
        }
    }

    private static void addCompares(List<Call> calls, int n, boolean solved) {
        int[][] pairs = {
            {0, 0}, {0, n - 1}, {-1, 0}, {0, -1}, {-1, -1}, {n, 0}, {0, n}, {n, n}, {n - 1, n}, {n, n - 1},
            {MIN, 0}, {0, MIN}, {MAX, 0}, {0, MAX}, {MIN, MAX}, {MAX, MIN}
        };
        for (int[] pair : pairs) {
            int j = pair[0];
            int k = pair[1];
            if (!solved || Math.min(j, k) < 0 || Math.max(j, k) >= n) {
                String due = solved ? Checks.INDEX : Checks.STATE;
                calls.add(new Call("compare(" + j + ", " + k + ")", due, desk -> desk.compare(j, k)));
            }
        }
    }

    private static void addParts(List<Call> calls) {
        for (int k : new int[] {-1, MIN}) {
            calls.add(new Call("part(false, " + k + ")", Checks.INDEX, desk -> desk.part(false, k)));
            calls.add(new Call("part(true, " + k + ")", Checks.INDEX, desk -> desk.part(true, k)));
        }
    }
}
