import java.lang.reflect.Array;
import java.lang.reflect.Field;
import java.lang.reflect.Modifier;
import java.util.ArrayDeque;
import java.util.Collections;
import java.util.Deque;
import java.util.IdentityHashMap;
import java.util.Set;

/** The room that a desk takes: what its constructor makes, and that no call makes it grow. */
public final class RoomTest {
    private static final int OBJECTS = 330;
    private static final int ELEMENTS = 5200;

    private int objects = 0;
    private int elements = 0;

    public static void main(String[] args) throws IllegalAccessException {
        EquationDesk desk = new EquationDesk();
        RoomTest fresh = new RoomTest();
        fresh.count(desk);
        Checks.due(fresh.objects + " objects are few", fresh.objects <= OBJECTS, true);
        Checks.due(fresh.elements + " fields and elements are few", fresh.elements <= ELEMENTS, true);
        useAll(desk);
        RoomTest used = new RoomTest();
        used.count(desk);
        Checks.due("objects of a used desk", used.objects, fresh.objects);
        Checks.due("fields and elements of a used desk", used.elements, fresh.elements);
        Checks.end("RoomTest");
    }

    private static void useAll(EquationDesk desk) {
        Checks.fill(desk, Systems.fullPaley());
        desk.solve();
        for (int k = 0; k < Systems.MOST; k++) {
            desk.unknown(k);
            desk.compare(k, 0);
            desk.part(false, k);
        }
        desk.determinant();
        desk.bits(false);
        Checks.dueThrow("size(13)", Checks.ARGUMENT, () -> desk.size(13));
        desk.size(0);
    }

    private void count(Object root) throws IllegalAccessException {
        Set<Object> seen = Collections.newSetFromMap(new IdentityHashMap<>());
        Deque<Object> open = new ArrayDeque<>();
        open.add(root);
        seen.add(root);
        while (!open.isEmpty()) {
            Object object = open.remove();
            objects++;
            Object[] inside = object.getClass().isArray() ? cellsOf(object) : fieldsOf(object);
            for (Object next : inside) {
                if (next != null && seen.add(next)) {
                    open.add(next);
                }
            }
        }
    }

    private Object[] cellsOf(Object array) {
        elements += Array.getLength(array);
        return array instanceof Object[] objectArray ? objectArray : new Object[0];
    }

    private Object[] fieldsOf(Object object) throws IllegalAccessException {
        Field[] fields = object.getClass().getDeclaredFields();
        Object[] values = new Object[fields.length];
        for (int f = 0; f < fields.length; f++) {
            if (!Modifier.isStatic(fields[f].getModifiers())) {
                elements++;
                fields[f].setAccessible(true);
                values[f] = fields[f].getType().isPrimitive() ? null : fields[f].get(object);
            }
        }
        return values;
    }
}
