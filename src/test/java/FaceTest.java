import java.lang.reflect.Array;
import java.lang.reflect.Constructor;
import java.lang.reflect.Field;
import java.lang.reflect.Method;
import java.lang.reflect.Modifier;
import java.util.IdentityHashMap;
import java.util.Map;
import java.util.TreeSet;

/** The public face, the constants, and the room that an object takes. */
public final class FaceTest {
    private static final String METHODS = "addParty advance appendInput averageWait bestFinish bestOrder boarded breakDown cancel "
            + "capacityLeft countTickets errorCode errorPosition exchange expectedReturns expiredPart forecastStandby "
            + "formatItinerary formattedByte isDown issue issueJoint itinerary joinStandby joinWaitlist leaveWaitlist "
            + "loadPark loadScript longestWait mergePersons mostServed moveTicket nextWindow now partyCount partySize "
            + "partyTier peakSlot planned redeem redeemOpen remaining repair restoreSnapshot rideCount runScript "
            + "saveSnapshot scriptLength servedSet setExtensionLimit setShare standbyPersons ticketCount ticketEnd "
            + "ticketExtension ticketParty ticketRide ticketStart ticketState tierCount truncateInput usage waitlistAt";
    private static final String CONSTANTS = "ACTIVE=0 CANCELLED=3 DUPLICATE=-3 EXPIRED=2 FULL=-6 NONE=-1 NOT_ALLOWED=-2 NO_WINDOW=-4 "
            + "OPEN=4 RIDE_DOWN=-5 TEXT_ERROR=-7 USED=1";

    // The room of a run has some 7.3 million elements and 600,000 objects for at most 512 calls.
    private static final int MOST_ELEMENTS = 7_300_000 / 512;
    private static final int MOST_OBJECTS = 600_000 / 512;

    private int objects;
    private int elements;
    private final Map<Object, Object> counted = new IdentityHashMap<>();

    public static void main(String[] args) throws ReflectiveOperationException {
        face();
        names();
        room();
        Checks.end();
    }

    private static void face() throws ReflectiveOperationException {
        Class<?> face = VirtualQueue.class;
        Checks.due("final and public", face.getModifiers(), Modifier.PUBLIC | Modifier.FINAL);
        TreeSet<String> methods = new TreeSet<>();
        for (Method m : face.getDeclaredMethods()) {
            if (!Modifier.isPrivate(m.getModifiers())) {
                methods.add(m.getName());
                Checks.due(m.getName() + " is public and no more", m.getModifiers(), Modifier.PUBLIC);
            }
        }
        Checks.due("methods", String.join(" ", methods), METHODS);
        TreeSet<String> constants = new TreeSet<>();
        for (Field f : face.getDeclaredFields()) {
            if (!Modifier.isPrivate(f.getModifiers())) {
                Checks.due(f.getName(), f.getModifiers(), Modifier.PUBLIC | Modifier.STATIC | Modifier.FINAL);
                constants.add(f.getName() + "=" + f.get(null));
            }
        }
        Checks.due("constants", String.join(" ", constants), CONSTANTS);
        Constructor<?>[] constructors = face.getDeclaredConstructors();
        Checks.due("constructors", constructors.length, 1);
        Checks.due("constructor", constructors[0].toString(), "public VirtualQueue()");
    }

    /** No other method bears the name of a public one, and the classes inside are static. */
    private static void names() {
        TreeSet<String> face = new TreeSet<>(java.util.List.of(METHODS.split(" ")));
        for (Class<?> inside : VirtualQueue.class.getDeclaredClasses()) {
            Checks.due(inside + " is static", Modifier.isStatic(inside.getModifiers()), true);
            for (Method m : inside.getDeclaredMethods()) {
                Checks.due(inside + " has a method " + m.getName(), face.contains(m.getName()), false);
            }
        }
    }

    private static void room() throws ReflectiveOperationException {
        FaceTest made = new FaceTest();
        VirtualQueue q = new VirtualQueue();
        made.count(q);
        Checks.due("a new object has " + made.elements + " elements, few enough", made.elements < MOST_ELEMENTS, true);
        Checks.due("a new object has " + made.objects + " objects, few enough", made.objects < MOST_OBJECTS, true);
        q.saveSnapshot(0);
        q.saveSnapshot(1);
        FaceTest saved = new FaceTest();
        saved.count(q);
        Checks.due("a snapshot has few enough elements", (saved.elements - made.elements) / 2 < MOST_ELEMENTS, true);
        for (int k = 0; k < 9; k++) {
            q.loadPark();
            q.saveSnapshot(k % 2);
        }
        FaceTest again = new FaceTest();
        again.count(q);
        Checks.due("what is made once is used again", again.objects, saved.objects);
    }

    private void count(Object object) throws ReflectiveOperationException {
        if (object == null || counted.put(object, object) != null) {
            return;
        }
        objects++;
        Class<?> type = object.getClass();
        if (type.isArray()) {
            elements += Array.getLength(object);
            for (int k = 0; k < Array.getLength(object) && !type.getComponentType().isPrimitive(); k++) {
                count(Array.get(object, k));
            }
            return;
        }
        for (Field f : type.getDeclaredFields()) {
            if (!Modifier.isStatic(f.getModifiers())) {
                elements++;
                f.setAccessible(true);
                if (!f.getType().isPrimitive()) {
                    count(f.get(object));
                }
            }
        }
    }
}
