import java.io.IOException;
import java.lang.reflect.Method;
import java.lang.reflect.Modifier;
import java.nio.file.Files;
import java.nio.file.Path;
import java.util.Set;
import java.util.regex.Matcher;
import java.util.regex.Pattern;

/**
 * Promises 1 to 57: each sentence that names a boundary case has an Edge of its own. Then the document is read: each
 * refusal and each NONE that a promise names must have been due, and each argument tried at both ends of int.
 */
public final class EdgesTest {
    private static final Path DOCUMENT = Path.of("../shared/DOC.md");
    /** NONE is no answer there, but an argument, told by asked(), or mixed. */
    private static final Set<String> NO_ANSWERS = Set.of("line NONE", "slipTold NONE", "asked NONE", "digest NONE");

    public static void main(String[] args) throws IOException {
        RowsEdges.all();
        BooksEdges.all();
        RulesEdges.all();
        SlipsEdges.all();
        CatalogueEdges.all();
        LooksEdges.all();
        ShelvesEdges.all();
        ToldEdges.all();
        promisesAreTried(Files.readString(DOCUMENT));
        endsOfIntAreTried();
        Due.end("EdgesTest");
    }

    private static void promisesAreTried(String document) {
        Matcher promise = Pattern.compile("(?s)## Promise (\\d+): (\\w+).*?\n\n(.*?)(?=\n\n)").matcher(document);
        int promises = 0;
        while (promise.find()) {
            promises++;
            int number = Integer.parseInt(promise.group(1));
            Due.is("a sentence of promise " + number, Edge.PROMISES.contains(number) ? 1 : 0, 1);
            Matcher word = Pattern.compile("\\b(BAD|FULL|STATE|SPENT|NOTHING|BEYOND|UNLIKE|NOUGHT|SIZE|NONE)\\b")
                .matcher(promise.group(3));
            while (word.find()) {
                String due = promise.group(2) + " " + word.group();
                if (!NO_ANSWERS.contains(due)) {
                    Due.is("tried: " + due, Edge.TRIED.contains(due) ? 1 : 0, 1);
                }
            }
        }
        Due.is("promises of the document", promises, 57);
    }

    private static void endsOfIntAreTried() {
        for (Method method : ReadersRoom.class.getDeclaredMethods()) {
            if (!Modifier.isPublic(method.getModifiers())) {
                continue;
            }
            Class<?>[] types = method.getParameterTypes();
            for (int i = 0; i < types.length; i++) {
                if (types[i] == int.class) {
                    for (int end : new int[] {Integer.MIN_VALUE, Integer.MAX_VALUE}) {
                        String tried = method.getName() + " " + i + " at " + end;
                        Due.is("tried: " + tried, Edge.TRIED.contains(tried) ? 1 : 0, 1);
                    }
                }
            }
        }
    }
}
