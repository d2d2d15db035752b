import java.io.IOException;
import java.lang.reflect.Constructor;
import java.lang.reflect.Executable;
import java.lang.reflect.Field;
import java.lang.reflect.Method;
import java.lang.reflect.Modifier;
import java.lang.reflect.Parameter;
import java.nio.file.Files;
import java.nio.file.Path;
import java.util.Set;
import java.util.StringJoiner;
import java.util.TreeSet;

/** The public face: each member declared just as the document writes it, its throws clause included, and no other. */
public final class FaceTest {
    /** "The public face" of the document, word for word. */
    private static final String FACE = """
            public final class VirtualQueue {
                public static final int NONE = -1;
                public static final int NOT_ALLOWED = -2;
                public static final int DUPLICATE = -3;
                public static final int NO_WINDOW = -4;
                public static final int RIDE_DOWN = -5;
                public static final int FULL = -6;
                public static final int TEXT_ERROR = -7;
                public static final int ACTIVE = 0;
                public static final int USED = 1;
                public static final int EXPIRED = 2;
                public static final int CANCELLED = 3;
                public static final int OPEN = 4;
                public VirtualQueue();
                public int appendInput(int w0, int w1, int w2, int w3, int w4);
                public int truncateInput(int length);
                public int loadPark();
                public int loadScript();
                public int errorCode();
                public int errorPosition();
                public int rideCount();
                public int tierCount();
                public int partyCount();
                public int now();
                public int addParty(int tier, int size) throws IndexOutOfBoundsException, IllegalArgumentException;
                public int partySize(int party) throws IndexOutOfBoundsException;
                public int partyTier(int party) throws IndexOutOfBoundsException;
                public int planned(int ride, int slot) throws IndexOutOfBoundsException, IllegalArgumentException;
                public int remaining(int ride, int slot) throws IndexOutOfBoundsException, IllegalArgumentException;
                public int issue(int party, int ride, int earliest) throws IndexOutOfBoundsException, IllegalArgumentException;
                public int nextWindow(int party, int ride, int earliest) throws IndexOutOfBoundsException, IllegalArgumentException;
                public int issueJoint(int party, int other, int ride, int earliest) throws IndexOutOfBoundsException, IllegalArgumentException;
                public int moveTicket(int ticket, int earliest) throws IndexOutOfBoundsException, IllegalArgumentException;
                public int exchange(int ticket, int ride, int earliest) throws IndexOutOfBoundsException, IllegalArgumentException;
                public int cancel(int ticket) throws IndexOutOfBoundsException;
                public boolean redeem(int ticket) throws IndexOutOfBoundsException;
                public boolean redeemOpen(int ticket, int ride) throws IndexOutOfBoundsException;
                public int ticketCount();
                public int ticketParty(int ticket) throws IndexOutOfBoundsException;
                public int ticketRide(int ticket) throws IndexOutOfBoundsException;
                public int ticketStart(int ticket) throws IndexOutOfBoundsException;
                public int ticketEnd(int ticket) throws IndexOutOfBoundsException;
                public int ticketState(int ticket) throws IndexOutOfBoundsException;
                public int ticketExtension(int ticket) throws IndexOutOfBoundsException;
                public int countTickets(int party, int state) throws IndexOutOfBoundsException, IllegalArgumentException;
                public int itinerary(int party, int index) throws IndexOutOfBoundsException;
                public int joinWaitlist(int party, int ride) throws IndexOutOfBoundsException;
                public boolean leaveWaitlist(int party, int ride) throws IndexOutOfBoundsException;
                public int waitlistAt(int ride, int index) throws IndexOutOfBoundsException;
                public int joinStandby(int ride, int size) throws IndexOutOfBoundsException, IllegalArgumentException;
                public int standbyPersons(int ride) throws IndexOutOfBoundsException;
                public int mergePersons(int ride) throws IndexOutOfBoundsException;
                public int advance(int slots) throws IllegalArgumentException;
                public boolean isDown(int ride) throws IndexOutOfBoundsException;
                public boolean breakDown(int ride) throws IndexOutOfBoundsException;
                public int repair(int ride) throws IndexOutOfBoundsException;
                public int setShare(int ride, int share) throws IndexOutOfBoundsException, IllegalArgumentException;
                public boolean setExtensionLimit(int limit);
                public int boarded(int ride, boolean merge) throws IndexOutOfBoundsException;
                public double averageWait(int ride) throws IndexOutOfBoundsException, ArithmeticException;
                public int longestWait(int ride) throws IndexOutOfBoundsException;
                public int forecastStandby(int ride, int size) throws IndexOutOfBoundsException, IllegalArgumentException;
                public int expectedReturns(int ride, int slot) throws IndexOutOfBoundsException, IllegalArgumentException;
                public double expiredPart(int ride) throws IndexOutOfBoundsException, ArithmeticException;
                public int capacityLeft(int ride) throws IndexOutOfBoundsException;
                public int peakSlot(int ride) throws IndexOutOfBoundsException;
                public double usage(int ride) throws IndexOutOfBoundsException, ArithmeticException;
                public int bestFinish(int party, int rides) throws IndexOutOfBoundsException, IllegalArgumentException;
                public int bestOrder(int party, int rides, int index) throws IndexOutOfBoundsException, IllegalArgumentException;
                public int mostServed(int ride) throws IndexOutOfBoundsException;
                public int servedSet(int ride) throws IndexOutOfBoundsException;
                public int runScript(int slots) throws IllegalArgumentException;
                public int scriptLength();
                public boolean saveSnapshot(int slot);
                public boolean restoreSnapshot(int slot);
                public int formatItinerary(int party) throws IndexOutOfBoundsException;
                public int formattedByte(int index);
            }
            """;

    private static final Path DOCUMENT = Path.of("../shared/DOC.md");

    public static void main(String[] args) throws ReflectiveOperationException, IOException {
        theDocument();
        theClass();
        members();
        classesInside();
        privateNames();
        Checks.end();
    }

    private static void theDocument() throws IOException {
        if (Files.exists(DOCUMENT)) {
            Checks.due("the document has this face", Files.readString(DOCUMENT).contains("```java\n" + FACE + "```"), true);
        }
    }

    private static void theClass() {
        Class<?> face = VirtualQueue.class;
        Checks.due("the class", Modifier.toString(face.getModifiers()) + " class " + face.getName(), "public final class VirtualQueue");
        Checks.due("the class above it", face.getSuperclass(), Object.class);
        Checks.due("its interfaces", face.getInterfaces().length, 0);
        Checks.due("its type parameters", face.getTypeParameters().length, 0);
    }

    /** All that is not private, written as the document writes it, is what the document has. */
    private static void members() throws ReflectiveOperationException {
        Set<String> due = dueMembers();
        Set<String> declared = declaredMembers();
        for (String member : due) {
            Checks.due("declared: " + member, declared.contains(member), true);
        }
        for (String member : declared) {
            Checks.due("in the document: " + member, due.contains(member), true);
        }
    }

    private static Set<String> dueMembers() {
        Set<String> all = new TreeSet<>();
        for (String line : FACE.split("\n")) {
            if (line.startsWith("    ")) {
                all.add(line.strip());
            }
        }
        // 12 constants, the constructor and 63 methods: a promise for each but the constants.
        Checks.due("members of the document's face", all.size(), 12 + 64);
        return all;
    }

    private static Set<String> declaredMembers() throws ReflectiveOperationException {
        Set<String> all = new TreeSet<>();
        for (Field field : VirtualQueue.class.getDeclaredFields()) {
            if (!Modifier.isPrivate(field.getModifiers())) {
                all.add(constant(field));
            }
        }
        for (Constructor<?> constructor : VirtualQueue.class.getDeclaredConstructors()) {
            if (!Modifier.isPrivate(constructor.getModifiers())) {
                all.add(signature(constructor, ""));
            }
        }
        for (Method method : VirtualQueue.class.getDeclaredMethods()) {
            if (!Modifier.isPrivate(method.getModifiers())) {
                all.add(signature(method, plain(method.getReturnType()) + " "));
            }
        }
        return all;
    }

    private static String constant(Field field) throws ReflectiveOperationException {
        String value = Modifier.isStatic(field.getModifiers()) ? " = " + field.get(null) : "";
        return modifiers(field.getModifiers()) + plain(field.getType()) + " " + field.getName() + value + ";";
    }

    private static String signature(Executable member, String answer) {
        StringJoiner parameters = new StringJoiner(", ", "(", ")");
        for (Parameter parameter : member.getParameters()) {
            Checks.due(".ci/run compiles with -parameters, which keeps their names", parameter.isNamePresent(), true);
            parameters.add(plain(parameter.getType()) + " " + parameter.getName());
        }
        StringJoiner thrown = new StringJoiner(", ", " throws ", "");
        thrown.setEmptyValue("");
        for (Class<?> type : member.getExceptionTypes()) {
            thrown.add(plain(type));
        }
        return modifiers(member.getModifiers()) + answer + member.getName() + parameters + thrown + ";";
    }

    private static String modifiers(int modifiers) {
        String text = Modifier.toString(modifiers);
        return text.isEmpty() ? text : text + " ";
    }

    private static String plain(Class<?> type) {
        String name = type.getTypeName();
        return name.startsWith("java.lang.") ? name.substring("java.lang.".length()) : name;
    }

    private static void classesInside() {
        for (Class<?> inside : VirtualQueue.class.getDeclaredClasses()) {
            int modifiers = inside.getModifiers();
            Checks.due(inside + " is static", Modifier.isStatic(modifiers), true);
            Checks.due(inside + " is seen outside", Modifier.isPublic(modifiers) || Modifier.isProtected(modifiers), false);
        }
    }

    /** No other method, here or in a class inside, bears the name of a public one. */
    private static void privateNames() {
        Set<String> names = new TreeSet<>();
        for (Method method : VirtualQueue.class.getMethods()) {
            if (method.getDeclaringClass() == VirtualQueue.class) {
                names.add(method.getName());
            }
        }
        for (Method method : VirtualQueue.class.getDeclaredMethods()) {
            if (!Modifier.isPublic(method.getModifiers())) {
                Checks.due("a private method " + method.getName(), names.contains(method.getName()), false);
            }
        }
        for (Class<?> inside : VirtualQueue.class.getDeclaredClasses()) {
            for (Method method : inside.getDeclaredMethods()) {
                Checks.due(inside + " has a method " + method.getName(), names.contains(method.getName()), false);
            }
        }
    }
}
