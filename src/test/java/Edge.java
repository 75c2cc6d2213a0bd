import java.lang.reflect.InvocationTargetException;
import java.lang.reflect.Method;
import java.util.ArrayList;
import java.util.Arrays;
import java.util.HashMap;
import java.util.List;
import java.util.Map;
import java.util.Set;
import java.util.TreeSet;

/**
 * One sentence of the document that names a boundary case, tried on a ReadersRoom of its own that is called by the
 * texts of calls. What is due to be refused is held to change nothing but finding() and findings(): on two objects
 * that got the same calls, the refused one too or not, so that no object is used for more than 512 calls.
 */
final class Edge {
    /** What was due of which call, and which arguments were tried at the ends of int, in all sentences. */
    static final Set<String> TRIED = new TreeSet<>();
    /** The numbers of the promises that the sentences are of. */
    static final Set<Integer> PROMISES = new TreeSet<>();

    private static final int MOST_CALLS = 512;
    private static final int LAST_MINUTE = 99999;
    private static final Map<String, Method> METHODS = methods();
    private static final List<String> LOOKED_AT = lookedAt();

    private final String sentence;
    private final List<String> calls = new ArrayList<>();
    private final ReadersRoom room = new ReadersRoom();

    private Edge(String sentence) {
        this.sentence = sentence;
    }

    /** A sentence begins with its promise's number (or "Terms", and which part). */
    static Edge of(String sentence) {
        String number = sentence.substring(0, sentence.indexOf(' '));
        if (!number.equals("Terms")) {
            PROMISES.add(Integer.parseInt(number));
        }
        return new Edge(sentence);
    }

    private static Map<String, Method> methods() {
        Map<String, Method> all = new HashMap<>();
        for (Method method : ReadersRoom.class.getDeclaredMethods()) {
            all.put(method.getName(), method);
        }
        return all;
    }

    // ---- what is due

    /** Calls that prepare: each must be taken. */
    Edge run(String... prepared) {
        for (String call : prepared) {
            long got = ask(room, call);
            calls.add(call);
            if (got < 0) {
                Due.complain(label(call) + " was to be taken, but answered " + got);
            }
        }
        return this;
    }

    Edge is(String call, long want) {
        Due.is(label(call), ask(room, call), want);
        calls.add(call);
        note(call, want == ReadersRoom.NONE ? "NONE" : "");
        if (calls.size() > MOST_CALLS) {
            Due.complain("[" + sentence + "] uses an object for more than 512 calls");
        }
        return this;
    }

    /** A call answers 1 and tells a number by asked(). */
    Edge tells(String call, int want) {
        return is(call, 1).is("asked()", want);
    }

    /** The digest of these numbers; '|' stands between those of unlike things, to be read more easily. */
    Edge digests(String... numbers) {
        long h = 17;
        for (String number : String.join(" ", numbers).split("[ |]+")) {
            h = 31 * h + Integer.parseInt(number);
        }
        return is("digest()", h);
    }

    Edge none(String... due) {
        for (String call : due) {
            is(call, ReadersRoom.NONE);
        }
        return this;
    }

    Edge bad(String... due) {
        return refuses(Refusal.BAD, due);
    }

    Edge full(String... due) {
        return refuses(Refusal.FULL, due);
    }

    Edge state(String... due) {
        return refuses(Refusal.STATE, due);
    }

    Edge spent(String... due) {
        return refuses(Refusal.SPENT, due);
    }

    Edge nothing(String... due) {
        return refuses(Refusal.NOTHING, due);
    }

    Edge beyond(String... due) {
        return refuses(Refusal.BEYOND, due);
    }

    Edge unlike(String... due) {
        return refuses(Refusal.UNLIKE, due);
    }

    Edge nought(String... due) {
        return refuses(Refusal.NOUGHT, due);
    }

    Edge size(String... due) {
        return refuses(Refusal.SIZE, due);
    }

    Edge refuses(Refusal due, String... refused) {
        for (String call : refused) {
            isRefused(call, due);
        }
        return this;
    }

    /** '#' stands for a number: least and most are the last ones that are taken, all others are BAD. */
    Edge within(String call, int least, int most) {
        return within(call, least, most, Refusal.BAD, Refusal.BAD);
    }

    Edge within(String call, int least, int most, Refusal below, Refusal above) {
        int[] lesser = {least - 1, least - 256, least - 65536, Integer.MIN_VALUE + 1, Integer.MIN_VALUE};
        for (int number : lesser) {
            isRefused(call.replace("#", Integer.toString(number)), below);
        }
        int[] greater = {most + 1, most + 256, most + 65536, Integer.MAX_VALUE - 1, Integer.MAX_VALUE};
        for (int number : greater) {
            isRefused(call.replace("#", Integer.toString(number)), above);
        }
        for (int number : new int[] {least, most}) {
            String taken = call.replace("#", Integer.toString(number));
            long got = ask(replayed(), taken);
            if (Refusal.isOne(got)) {
                Due.complain(label(taken) + " was to be taken, but answered " + got);
            }
        }
        return this;
    }

    // ---- what is prepared often

    /** Lays the numbers as a ROW. */
    Edge lay(int r, int... numbers) {
        run("row(" + r + ", " + numbers.length + ")");
        for (int i = 0; i < numbers.length; i++) {
            run("lay(" + r + ", " + i + ", " + numbers[i] + ")");
        }
        return this;
    }

    /** Puts the signs as a TEXT. */
    Edge write(int t, String signs) {
        run("text(" + t + ", " + signs.length() + ")");
        for (int i = 0; i < signs.length(); i++) {
            if (signs.charAt(i) != ' ') {
                run("put(" + t + ", " + i + ", " + (int) signs.charAt(i) + ")");
            }
        }
        return this;
    }

    /** Tells RULES by TEXT 3. */
    Edge rules(String signs, int from) {
        return write(3, signs).run("rule(3, " + from + ")");
    }

    /** Tells a SLIP for the BOOK with a MARK by TEXT 2. */
    Edge asks(int reader, int mark) {
        return write(2, Integer.toString(mark)).run("slip(" + reader + ", 2, 0)");
    }

    /** The same call so many times. */
    Edge times(int many, String call) {
        for (int k = 0; k < many; k++) {
            run(call);
        }
        return this;
    }

    /** BOOK k with MARK k stands at a PLACE of KIND k (0 to 6), at minute 6; each own SHELF is 2. */
    static Edge ofKinds(String sentence) {
        Edge x = of(sentence);
        for (int b = 0; b <= 6; b++) {
            x.run("book(" + b + ", 2, false)");
        }
        x.asks(1, 1).asks(2, 2).asks(4, 4);
        x.run("send(0, 0)", "send(1, 1)", "send(2, 2)", "later(6)");
        x.run("keep(2)", "back(4, 5)", "bind(3, 500)", "lose(6)");
        return x.asks(5, 5).run("send(0, 3)");
    }

    // ---- holding what is refused

    private void isRefused(String call, Refusal due) {
        ReadersRoom without = replayed();
        ReadersRoom with = replayed();
        ask(with, call);
        for (int f = 1; f <= 5; f++) {
            int more = f == due.finding ? 1 : 0;
            Due.is(label(call) + " findings(" + f + ")", with.findings(f), without.findings(f) + more);
        }
        int last = without.finding();
        Due.is(label(call) + " finding()", with.finding(), due.finding == 0 ? last : due.finding);
        for (String looked : LOOKED_AT) {
            Due.is(label(call) + " was refused; behind it " + looked, ask(with, looked), ask(without, looked));
        }
        letGoOn(call, with, without);
        is(call, due.answer);
        note(call, due.name());
        if (calls.size() + LOOKED_AT.size() + 16 > MOST_CALLS) {
            Due.complain(label(call) + " comes too late for an object of 512 calls");
        }
    }

    /** What neither a digest nor an answer tells at once (till when one is GOING) comes out as the minutes go on. */
    private void letGoOn(String call, ReadersRoom with, ReadersRoom without) {
        for (int step : new int[] {1, 60, 1440, 20000}) {
            int minutes = Math.min(step, LAST_MINUTE - without.count(0));
            with.later(minutes);
            without.later(minutes);
            Due.is(label(call) + " was refused; later on digest()", with.digest(), without.digest());
        }
    }

    private static List<String> lookedAt() {
        List<String> all = new ArrayList<>(List.of("digest()", "asked()", "upper()", "lower()"));
        for (int i = 0; i < 12; i++) {
            all.add("moved(" + i + ")");
        }
        for (int what = 0; what < 4; what++) {
            for (int day : new int[] {0, 1, 30, 69}) {
                all.add("force(" + what + ", " + day + ", 69)");
            }
            all.add("force(" + what + ", 69, 0)");
            all.add("why(" + what + ", 69, 69)");
        }
        for (int q : new int[] {1, 2, 3, 9}) {
            all.add("beside(" + q + ")");
        }
        for (int age = 0; age < 3; age++) {
            all.add("today(" + age + ", 0, 0)");
            all.add("turned(" + age + ", 0, 0, 0)");
        }
        all.addAll(List.of("line(0, 0, 0, 0, 0)", "wrong()", "upper()", "lower()"));
        return all;
    }

    private ReadersRoom replayed() {
        ReadersRoom again = new ReadersRoom();
        for (String call : calls) {
            ask(again, call);
        }
        return again;
    }

    // ---- calls by their texts

    private String label(String call) {
        return "[" + sentence + "] " + call;
    }

    private static String nameOf(String call) {
        return call.substring(0, call.indexOf('('));
    }

    private static String[] argumentsOf(String call) {
        String inside = call.substring(call.indexOf('(') + 1, call.indexOf(')')).strip();
        return inside.isEmpty() ? new String[0] : inside.split(" *, *");
    }

    private static Object read(String argument) {
        switch (argument) {
            case "true": case "false": return Boolean.valueOf(argument);
            case "MAX": return Integer.MAX_VALUE;
            case "MIN": return Integer.MIN_VALUE;
            case "NONE": return ReadersRoom.NONE;
            default: return Integer.valueOf(argument);
        }
    }

    private static void note(String call, String due) {
        if (!due.isEmpty()) {
            TRIED.add(nameOf(call) + " " + due);
        }
        String[] arguments = argumentsOf(call);
        for (int i = 0; i < arguments.length; i++) {
            Object number = read(arguments[i]);
            if (number.equals(Integer.MAX_VALUE) || number.equals(Integer.MIN_VALUE)) {
                TRIED.add(nameOf(call) + " " + i + " at " + number);
            }
        }
    }

    private static long ask(ReadersRoom asked, String call) {
        Object[] arguments = Arrays.stream(argumentsOf(call)).map(Edge::read).toArray();
        try {
            return ((Number) METHODS.get(nameOf(call)).invoke(asked, arguments)).longValue();
        } catch (InvocationTargetException thrown) {
            Due.complain(call + " threw " + thrown.getCause());
            return Long.MIN_VALUE;
        } catch (IllegalAccessException hidden) {
            throw new IllegalStateException(hidden);
        }
    }
}
