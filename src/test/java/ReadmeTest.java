import java.io.IOException;
import java.nio.file.Files;
import java.nio.file.Path;
import java.util.List;

/** The example of README.md: each answer is the one that stands there. */
public final class ReadmeTest {
    private static List<String> lines;

    public static void main(String[] args) throws IOException {
        lines = Files.readAllLines(Path.of("README.md"));
        EquationDesk desk = new EquationDesk();
        desk.size(2);
        due("desk.put(0, 0, 1);", desk.put(0, 0, 1));
        due("desk.put(0, 1, 2);", desk.put(0, 1, 2));
        due("desk.put(0, 2, 5);", desk.put(0, 2, 5));
        due("desk.put(1, 0, 3);", desk.put(1, 0, 3));
        due("desk.put(1, 1, 4);", desk.put(1, 1, 4));
        due("desk.put(1, 2, 6);", desk.put(1, 2, 6));
        due("desk.solve();", desk.solve());
        due("desk.determinant();", desk.determinant());
        Checks.dueResult("the determinant of README.md", desk, -2, 1);
        due("desk.compare(0, 1);", desk.compare(0, 1));
        Checks.dueResult("the result behind compare of README.md", desk, -2, 1);
        due("desk.unknown(0);", desk.unknown(0));
        Checks.dueResult("x of README.md", desk, -4, 1);
        due("desk.unknown(1);", desk.unknown(1));
        Checks.dueResult("y of README.md", desk, 9, 2);
        due("desk.bits(false);", desk.bits(false));
        due("desk.bits(true);", desk.bits(true));
        due("desk.part(false, 0);", desk.part(false, 0));
        due("desk.part(true, 0);", desk.part(true, 0));
        due("desk.part(true, 1);", desk.part(true, 1));
        Checks.end("ReadmeTest");
    }

    private static void due(String call, Object answer) {
        Checks.due(call + " in README.md", answer.toString(), toldFor(call));
    }

    /** What stands first behind the call's "// ". */
    private static String toldFor(String call) {
        for (String line : lines) {
            if (line.startsWith(call) && line.contains("// ")) {
                return line.substring(line.indexOf("// ") + 3).split("[,:;]")[0];
            }
        }
        return "nothing: the call is not there";
    }
}
