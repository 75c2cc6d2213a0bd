import java.lang.reflect.InvocationTargetException;
import java.lang.reflect.Method;
import java.util.ArrayDeque;
import java.util.Arrays;
import java.util.Deque;
import java.util.HashMap;
import java.util.Map;

/**
 * A ReadersRoom and a Model that get the same calls; their answers are held against each other, and their digests now
 * and then, so that the room is used for 512 calls at most.
 */
final class Pair {
    private static final Map<String, Method> ROOM = methodsOf(ReadersRoom.class);
    private static final Map<String, Method> MODEL = methodsOf(Model.class);
    private static final int SHOWN_CALLS = 12;
    private static final int BETWEEN_DIGESTS = 8;

    private final ReadersRoom room = new ReadersRoom();
    private final Model model = new Model();
    private final Deque<String> latest = new ArrayDeque<>();
    private int calls = 0;
    private int behindDigest = 0;

    private static Map<String, Method> methodsOf(Class<?> type) {
        Map<String, Method> all = new HashMap<>();
        for (Method method : type.getDeclaredMethods()) {
            all.put(method.getName(), method);
        }
        return all;
    }

    int calls() {
        return calls;
    }

    /** Calls both, and compares what they answer; answers what the room answered. */
    long call(String name, Object... arguments) {
        String shown = name + Arrays.toString(arguments);
        latest.add(shown);
        if (latest.size() > SHOWN_CALLS) {
            latest.remove();
        }
        long got = ask(ROOM.get(name), room, arguments);
        long want = ask(MODEL.get(name), model, arguments);
        calls++;
        Due.is(shown, got, want);
        behindDigest++;
        if (behindDigest == BETWEEN_DIGESTS) {
            compareDigests();
        }
        return got;
    }

    void compareDigests() {
        calls++;
        behindDigest = 0;
        if (room.digest() != model.digest()) {
            Due.complain("the room and the model are not alike behind " + latest);
        }
    }

    private static long ask(Method method, Object object, Object... arguments) {
        try {
            method.setAccessible(true);
            return ((Number) method.invoke(object, arguments)).longValue();
        } catch (InvocationTargetException thrown) {
            Due.complain(method.getName() + Arrays.toString(arguments) + " threw " + thrown.getCause());
            return Long.MIN_VALUE;
        } catch (IllegalAccessException hidden) {
            throw new IllegalStateException(hidden);
        }
    }
}
