import java.lang.reflect.Array;
import java.lang.reflect.Field;
import java.lang.reflect.Modifier;
import java.util.IdentityHashMap;
import java.util.Map;

/** The room that an object takes. */
public final class RoomTest {
    // The room of a run has some 7.3 million elements and 600,000 objects for at most 512 calls.
    private static final int MOST_ELEMENTS = 7_300_000 / 512;
    private static final int MOST_OBJECTS = 600_000 / 512;

    private int objects;
    private int elements;
    private final Map<Object, Object> counted = new IdentityHashMap<>();

    public static void main(String[] args) throws ReflectiveOperationException {
        room();
        Checks.end();
    }

    private static void room() throws ReflectiveOperationException {
        RoomTest made = new RoomTest();
        VirtualQueue q = new VirtualQueue();
        made.count(q);
        Checks.due("a new object has " + made.elements + " elements, few enough", made.elements < MOST_ELEMENTS, true);
        Checks.due("a new object has " + made.objects + " objects, few enough", made.objects < MOST_OBJECTS, true);
        q.saveSnapshot(0);
        q.saveSnapshot(1);
        RoomTest saved = new RoomTest();
        saved.count(q);
        Checks.due("a snapshot has few enough elements", (saved.elements - made.elements) / 2 < MOST_ELEMENTS, true);
        for (int k = 0; k < 9; k++) {
            q.loadPark();
            q.saveSnapshot(k % 2);
        }
        RoomTest again = new RoomTest();
        again.count(q);
        Checks.due("what is made once is used again", again.objects, saved.objects);
    }

    private void count(Object object) throws ReflectiveOperationException {
        if (object == null || counted.put(object, object) != null) {
            return;
        }
        objects++;
        Class<?> type = object.getClass();
        if (type.isArray()) {
            elements += Array.getLength(object);
            for (int k = 0; k < Array.getLength(object) && !type.getComponentType().isPrimitive(); k++) {
                count(Array.get(object, k));
            }
            return;
        }
        for (Field f : type.getDeclaredFields()) {
            if (!Modifier.isStatic(f.getModifiers())) {
                elements++;
                f.setAccessible(true);
                if (!f.getType().isPrimitive()) {
                    count(f.get(object));
                }
            }
        }
    }
}
