import java.lang.reflect.Array;
import java.lang.reflect.Field;
import java.lang.reflect.Modifier;
import java.util.ArrayDeque;
import java.util.IdentityHashMap;
import java.util.Map;

/** A docket makes all its rows when it is made: a used one holds the very objects that the new one held. */
public final class RoomTest {
    private static final int MOST_OBJECTS = 400;
    private static final int MOST_FIELDS_AND_ELEMENTS = 6000;

    private final Map<Object, Boolean> objects = new IdentityHashMap<>();
    private final ArrayDeque<Object> waiting = new ArrayDeque<>();
    private int fieldsAndElements = 0;

    private RoomTest() {
    }

    public static void main(String[] args) throws IllegalAccessException {
        aNewDocketIsSmall();
        callsMakeNoObjects();
        Check.done("RoomTest");
    }

    private static void aNewDocketIsSmall() throws IllegalAccessException {
        RoomTest room = of(new FeeDocket());
        Check.same("the walk reaches the saved states", room.objects.size() > 100, true);
        Check.same("objects: " + room.objects.size(), room.objects.size() <= MOST_OBJECTS, true);
        Check.same("fields and elements: " + room.fieldsAndElements,
            room.fieldsAndElements <= MOST_FIELDS_AND_ELEMENTS, true);
    }

    private static void callsMakeNoObjects() throws IllegalAccessException {
        FeeDocket docket = new FeeDocket();
        RoomTest before = of(docket);
        use(docket);
        RoomTest behind = of(docket);
        Check.same("objects", behind.objects.size(), before.objects.size());
        Check.same("fields and elements", behind.fieldsAndElements, before.fieldsAndElements);
        for (Object object : behind.objects.keySet()) {
            Check.same("an object of the new docket", before.objects.containsKey(object), true);
        }
    }

    private static void use(FeeDocket docket) {
        docket.holiday(1, 1);
        Dockets.write(docket, "0-3-1;0-3-1s;".repeat(5));
        docket.parse();
        docket.setFees(1, 2, 3, 4);
        docket.pass(600);
        docket.use(0, 1);
        docket.revive(1);
        docket.payAll();
        docket.share(1);
        docket.costs(4000);
        docket.lapsing(4000);
        docket.digest();
        Check.badIndex("pay(10)", () -> docket.pay(10));
        for (int left = 3; left >= 0; left--) {
            docket.undo();
        }
        docket.clearText();
    }

    private static RoomTest of(FeeDocket docket) throws IllegalAccessException {
        RoomTest room = new RoomTest();
        room.reach(docket);
        while (!room.waiting.isEmpty()) {
            room.enter(room.waiting.remove());
        }
        return room;
    }

    private void reach(Object object) {
        if (object != null && objects.put(object, true) == null) {
            waiting.add(object);
        }
    }

    private void enter(Object object) throws IllegalAccessException {
        if (object.getClass().isArray()) {
            enterArray(object);
            return;
        }
        for (Field field : object.getClass().getDeclaredFields()) {
            if (!Modifier.isStatic(field.getModifiers())) {
                fieldsAndElements++;
                field.setAccessible(true);
                if (!field.getType().isPrimitive()) {
                    reach(field.get(object));
                }
            }
        }
    }

    private void enterArray(Object array) {
        int length = Array.getLength(array);
        fieldsAndElements += length;
        if (!array.getClass().getComponentType().isPrimitive()) {
            for (int i = 0; i < length; i++) {
                reach(Array.get(array, i));
            }
        }
    }
}
