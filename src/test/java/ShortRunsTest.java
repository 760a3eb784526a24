import java.util.ArrayList;
import java.util.List;
import java.util.function.Function;
import java.util.function.ToLongFunction;

/** Every run of up to four calls out of fifteen, from desks in several states: all promises hold behind each. */
public final class ShortRunsTest {
    private static final int LONGEST = 4;
    private static final int STARTS = 4;
    private static final List<Step> STEPS = new ArrayList<>();

    /** What the model says that the call throws, and the call itself on the desk and on the model. */
    private record Step(String text, Function<Model, String> due, ToLongFunction<EquationDesk> onDesk,
            ToLongFunction<Model> onModel) {
    }

    public static void main(String[] args) {
        addSize(0);
        addSize(1);
        addSize(2);
        addSize(13);
        addPut(0, 0, 0L);
        addPut(0, 0, -6L);
        addPut(0, 1, 4L);
        addPut(1, 1, 10L);
        addPut(1, 2, 0L);
        addUnknown(0);
        addUnknown(1);
        addCompare(0, 1);
        STEPS.add(new Step("solve()", model -> Checks.NOTHING,
                desk -> desk.solve() ? 1 : 0, model -> model.solve() ? 1 : 0));
        STEPS.add(new Step("determinant()", ShortRunsTest::solvedOnly,
                desk -> desk.determinant(), model -> model.determinant()));
        STEPS.add(new Step("part(true, -1)", model -> Checks.INDEX,
                desk -> desk.part(true, -1), model -> 0));
        for (int start = 0; start < STARTS; start++) {
            for (int length = 1; length <= LONGEST; length++) {
                dueRuns(start, new Step[length], 0);
            }
        }
        Checks.end("ShortRunsTest");
    }

    private static String solvedOnly(Model model) {
        return model.solved ? Checks.NOTHING : Checks.STATE;
    }

    private static void addSize(int n) {
        STEPS.add(new Step("size(" + n + ")", model -> n > 12 ? Checks.ARGUMENT : Checks.NOTHING,
                desk -> {
                    desk.size(n);
                    return 0;
                },
                model -> {
                    model.size(n);
                    return 0;
                }));
    }

    private static void addPut(int i, int j, long v) {
        STEPS.add(new Step("put(" + i + ", " + j + ", " + v + ")",
                model -> i < model.n && j <= model.n ? Checks.NOTHING : Checks.INDEX,
                desk -> desk.put(i, j, v), model -> model.put(i, j, v)));
    }

    private static void addUnknown(int k) {
        STEPS.add(new Step("unknown(" + k + ")",
                model -> !model.solved ? Checks.STATE : model.has(k) ? Checks.NOTHING : Checks.INDEX,
                desk -> desk.unknown(k), model -> model.unknown(k)));
    }

    private static void addCompare(int j, int k) {
        STEPS.add(new Step("compare(" + j + ", " + k + ")",
                model -> !model.solved ? Checks.STATE : model.has(j) && model.has(k) ? Checks.NOTHING : Checks.INDEX,
                desk -> desk.compare(j, k), model -> model.compare(j, k)));
    }

    private static void dueRuns(int start, Step[] run, int chosen) {
        if (chosen == run.length) {
            dueRun(start, run);
            return;
        }
        for (Step step : STEPS) {
            run[chosen] = step;
            dueRuns(start, run, chosen + 1);
        }
    }

    private static void dueRun(int start, Step[] run) {
        Twin twin = inState(start);
        StringBuilder text = new StringBuilder("start ").append(start);
        for (Step step : run) {
            text.append(", ").append(step.text);
            dueStep(twin, step, text);
        }
        twin.dueAll(text.toString());
    }

    private static void dueStep(Twin twin, Step step, StringBuilder text) {
        String due = step.due.apply(twin.model);
        if (due.equals(Checks.NOTHING)) {
            Checks.due(text.toString(), step.onDesk.applyAsLong(twin.desk), step.onModel.applyAsLong(twin.model));
        } else {
            Checks.dueThrow(text.toString(), due, () -> step.onDesk.applyAsLong(twin.desk));
        }
    }

    private static Twin inState(int start) {
        Twin twin = new Twin();
        switch (start) {
            case 0:
                return twin;
            case 1:
                return twin.fill(Checks.row(-6, 4)).solve();
            case 2:
                return twin.fill(Checks.row(3, 5, 7), Checks.row(-2, 4, 8)).solve().unknown(0);
            default:
                return twin.fill(Checks.row(3, 5, 7), Checks.row(6, 0, 8)).solve().determinant().put(0, 0, 0L).put(0, 1, 0L);
        }
    }
}
