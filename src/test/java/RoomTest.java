import java.lang.reflect.Array;
import java.lang.reflect.Field;
import java.lang.reflect.Method;
import java.lang.reflect.Modifier;
import java.util.ArrayDeque;
import java.util.Collections;
import java.util.IdentityHashMap;
import java.util.Set;
import java.util.stream.Stream;

/** What an object holds is made with it, and never becomes more: all calls of a run live in one room. */
public final class RoomTest {
    /** So many objects of the class must fit into the room of a run, though one run rarely makes more than a few. */
    private static final int AT_ONCE = 4000, ROOM_OBJECTS = 600_000, ROOM_ELEMENTS = 7_300_000;
    private static final String[] EACH_CALL = {"type(115)", "type(49)", "matrix()", "widen()", "widen()", "widen()",
        "widen()", "widen()", "sheet(0, 0, 24)", "sheet(1, 1, 24)", "sheet(2, 2, 24)", "sheet(3, 3, 24)", "drift(40)",
        "change(3, 1)", "put(2, 1)", "shape(3)", "turn()", "seed(77)", "image()", "line(0)", "right(0)", "entry(1, 2)",
        "count(3)", "count(4)", "count(6)", "corner(4)", "leap(0)", "solved(-1)", "solved(0)", "inverse(0, 0)",
        "weak(2, 0)", "mend(1)", "term(1)", "next(20)", "wiped(3, 0)", "wiped(3, 1)", "came(0, 0, 0)",
        "apply(0, 0, 0)", "film(1, 1, 3)", "item(3, 3, 5, 99)", "copy(0, 0, 0, 3, 12)", "undo()", "restore()", "cut()",
        "drop(2)", "prime(97)", "prime(7)", "shape(9)", "line(-1)", "copy(0, 0, 9, 0, 1)"};

    private final Set<Object> seen = Collections.newSetFromMap(new IdentityHashMap<>());
    private final ArrayDeque<Object> waiting = new ArrayDeque<>();
    private long elements = 0;

    public static void main(String[] args) throws Exception {
        Check check = new Check();
        LeanDiagonals x = new LeanDiagonals();
        RoomTest fresh = measure(x);
        check.due("many objects fit into the room", (long) fresh.seen.size() * AT_ONCE <= ROOM_OBJECTS ? 1 : 0, 1);
        check.due("many objects' elements fit, too", fresh.elements * AT_ONCE <= ROOM_ELEMENTS ? 1 : 0, 1);
        for (Method method : LeanDiagonals.class.getDeclaredMethods()) {
            boolean asked = Stream.of(EACH_CALL).anyMatch(call -> call.startsWith(method.getName() + "("));
            check.due(method + " is asked", asked || !Modifier.isPublic(method.getModifiers()) ? 1 : 0, 1);
        }
        for (int call = 0; call < 512; call++) {
            Script.ask(x, EACH_CALL[call % EACH_CALL.length]);
        }
        RoomTest used = measure(x);
        check.due("objects behind 512 calls", used.seen.size(), fresh.seen.size());
        check.due("elements behind 512 calls", used.elements, fresh.elements);
        check.due("the same objects behind 512 calls", used.seen.containsAll(fresh.seen) ? 1 : 0, 1);
        check.close("RoomTest");
    }

    private static RoomTest measure(Object root) throws IllegalAccessException {
        RoomTest room = new RoomTest();
        room.meet(root);
        while (!room.waiting.isEmpty()) {
            room.lookInto(room.waiting.remove());
        }
        return room;
    }

    private void meet(Object found) {
        if (found != null && seen.add(found)) {
            waiting.add(found);
        }
    }

    private void lookInto(Object owner) throws IllegalAccessException {
        Class<?> type = owner.getClass();
        if (type.isArray()) {
            elements += Array.getLength(owner);
            for (int i = 0; !type.getComponentType().isPrimitive() && i < Array.getLength(owner); i++) {
                meet(Array.get(owner, i));
            }
            return;
        }
        for (Field field : type.getDeclaredFields()) {
            if (!Modifier.isStatic(field.getModifiers())) {
                elements++;
                field.setAccessible(true);
                if (!field.getType().isPrimitive()) {
                    meet(field.get(owner));
                }
            }
        }
    }
}
