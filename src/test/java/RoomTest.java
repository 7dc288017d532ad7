import java.lang.reflect.Array;
import java.lang.reflect.Field;
import java.lang.reflect.Modifier;
import java.util.ArrayDeque;
import java.util.Collections;
import java.util.Deque;
import java.util.IdentityHashMap;
import java.util.Set;

/**
 * What an object keeps when all places are taken. No other call makes anything (TextTest), so this is
 * all that a run makes.
 */
public final class RoomTest {
    private static final Check CHECK = new Check();
    private static final int MOST_OBJECTS = 1000;
    private static final int MOST_ELEMENTS = 30000;

    private final Set<Object> known = Collections.newSetFromMap(new IdentityHashMap<>());
    private final Deque<Object> open = new ArrayDeque<>();
    private int elements = 0;

    public static void main(String[] args) throws IllegalAccessException {
        RoomTest room = new RoomTest();
        room.walk(Desks.full());
        CHECK.due("objects, at most", room.known.size() <= MOST_OBJECTS ? 1 : 0, 1);
        CHECK.due("objects, all are found", room.known.size() >= 24 + 8 + 60 ? 1 : 0, 1);
        CHECK.due("fields and elements, at most", room.elements <= MOST_ELEMENTS ? 1 : 0, 1);
        System.out.println("a full desk: " + room.known.size() + " objects, " + room.elements + " fields and elements");
        CHECK.finish("RoomTest");
    }

    private void walk(Object desk) throws IllegalAccessException {
        reach(desk);
        while (!open.isEmpty()) {
            Object next = open.remove();
            if (next.getClass().isArray()) {
                walkArray(next);
            } else {
                walkFields(next);
            }
        }
    }

    private void reach(Object one) {
        if (one != null && known.add(one)) {
            open.add(one);
        }
    }

    private void walkArray(Object array) {
        elements += Array.getLength(array);
        for (int i = 0; i < Array.getLength(array) && !array.getClass().getComponentType().isPrimitive(); i++) {
            reach(Array.get(array, i));
        }
    }

    private void walkFields(Object one) throws IllegalAccessException {
        for (Field field : one.getClass().getDeclaredFields()) {
            if (!Modifier.isStatic(field.getModifiers())) {
                elements++;
                field.setAccessible(true);
                if (!field.getType().isPrimitive()) {
                    reach(field.get(one));
                }
            }
        }
    }
}
