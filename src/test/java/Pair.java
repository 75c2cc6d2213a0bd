import java.lang.reflect.InvocationTargetException;
import java.lang.reflect.Method;
import java.util.ArrayDeque;
import java.util.Arrays;
import java.util.Deque;
import java.util.HashMap;
import java.util.Map;

/** A ReadersRoom and a Model that get the same calls; their answers are held against each other. */
final class Pair {
    private static final Map<String, Method> ROOM = methodsOf(ReadersRoom.class);
    private static final Map<String, Method> MODEL = methodsOf(Model.class);
    private static final int SHOWN_CALLS = 12;

    private final ReadersRoom room = new ReadersRoom();
    private final Model model = new Model();
    private final Deque<String> latest = new ArrayDeque<>();
    private int calls = 0;

    private static Map<String, Method> methodsOf(Class<?> type) {
        Map<String, Method> all = new HashMap<>();
        for (Method method : type.getDeclaredMethods()) {
            all.put(method.getName(), method);
        }
        return all;
    }

    int calls() {
        return calls;
    }

    /** Calls both, compares the answers, what is told, and the digests; answers what the room answered. */
    long call(String name, Object... arguments) {
        calls++;
        String shown = name + Arrays.toString(arguments);
        latest.add(shown);
        if (latest.size() > SHOWN_CALLS) {
            latest.remove();
        }
        long before = room.digest();
        String toldBefore = told();
        long got = ask(ROOM.get(name), room, arguments);
        long want = ask(MODEL.get(name), model, arguments);
        boolean alike = room.digest() == model.digest() && room.asked() == model.asked()
            && room.upper() == model.upper() && room.lower() == model.lower() && room.finding() == model.finding();
        boolean refused = got == -1 || got == -2 || got == -3 || got == -4 || got == -6;
        boolean tells = name.equals("asked") || name.equals("upper") || name.equals("lower") || name.equals("digest");
        Due.is(shown, got, want);
        if (!alike) {
            Due.complain("the room and the model are not alike behind " + latest);
        }
        if (refused && !tells && (before != room.digest() || !toldBefore.equals(told()))) {
            Due.complain(shown + " was refused (" + got + "), but changed something, behind " + latest);
        }
        return got;
    }

    /** What a refused call must leave, beside the digest. */
    private String told() {
        StringBuilder all = new StringBuilder();
        all.append(room.asked()).append(' ').append(room.upper()).append(' ').append(room.lower());
        for (int i = 0; i < 12; i++) {
            all.append(' ').append(room.moved(i));
        }
        for (int what = 0; what < 4; what++) {
            all.append(' ').append(room.force(what, 69, 69));
        }
        return all.append(' ').append(room.beside(1)).append(' ').append(room.beside(2)).toString();
    }

    private static long ask(Method method, Object object, Object... arguments) {
        try {
            method.setAccessible(true);
            return ((Number) method.invoke(object, arguments)).longValue();
        } catch (InvocationTargetException thrown) {
            Due.complain(method.getName() + Arrays.toString(arguments) + " threw " + thrown.getCause());
            return Long.MIN_VALUE;
        } catch (IllegalAccessException hidden) {
            throw new IllegalStateException(hidden);
        }
    }
}
