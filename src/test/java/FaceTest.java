import java.lang.reflect.Constructor;
import java.lang.reflect.Field;
import java.lang.reflect.Method;
import java.lang.reflect.Modifier;
import java.util.Arrays;
import java.util.Set;
import java.util.TreeSet;

/** The public face: the document's members, and no other that is not private. */
public final class FaceTest {
    private static final Set<String> FACE = new TreeSet<>(Arrays.asList(
            "public void EquationDesk.size(int) throws java.lang.IllegalArgumentException",
            "public long EquationDesk.put(int,int,long) throws java.lang.IndexOutOfBoundsException",
            "public boolean EquationDesk.solve()",
            "public int EquationDesk.unknown(int)"
                    + " throws java.lang.IllegalStateException,java.lang.IndexOutOfBoundsException",
            "public int EquationDesk.determinant() throws java.lang.IllegalStateException",
            "public int EquationDesk.compare(int,int)"
                    + " throws java.lang.IllegalStateException,java.lang.IndexOutOfBoundsException",
            "public int EquationDesk.bits(boolean)",
            "public int EquationDesk.part(boolean,int) throws java.lang.IndexOutOfBoundsException"));

    public static void main(String[] args) {
        Class<?> desk = EquationDesk.class;
        Checks.due("public and final", Modifier.toString(desk.getModifiers()), "public final");
        Set<String> members = new TreeSet<>();
        for (Method method : desk.getDeclaredMethods()) {
            if (!Modifier.isPrivate(method.getModifiers())) {
                members.add(method.toString());
            }
        }
        Checks.due("the methods", members, FACE);
        for (Field field : desk.getDeclaredFields()) {
            Checks.due(field + " is private", Modifier.isPrivate(field.getModifiers()), true);
        }
        Set<String> constructors = new TreeSet<>();
        for (Constructor<?> constructor : desk.getDeclaredConstructors()) {
            constructors.add(constructor.toString());
        }
        Checks.due("the constructors", constructors, Set.of("public EquationDesk()"));
        Checks.end("FaceTest");
    }
}
