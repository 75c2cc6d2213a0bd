import java.io.IOException;
import java.lang.reflect.Field;
import java.lang.reflect.Modifier;
import java.nio.file.Files;
import java.nio.file.Path;
import java.util.regex.Matcher;
import java.util.regex.Pattern;

/** README.md tells the truth: each call of its example answers the number behind it, each constant has its number. */
public final class ReadmeTest {
    private static final Path README = Path.of("README.md");
    private static final int LEAST_CALLS = 20;

    public static void main(String[] args) throws IOException, IllegalAccessException {
        String page = Files.readString(README);
        example(page);
        constants(page);
        for (String told : new String[] {"asked()", "upper()", "lower()", "finding()", "findings(f)", "512", ".ci/run"}) {
            Due.is("README.md tells of " + told, page.contains(told) ? 1 : 0, 1);
        }
        Due.end("ReadmeTest");
    }

    private static void example(String page) {
        Edge room = Edge.of("Terms as README.md shows them");
        Matcher line = Pattern.compile("(?m)^room\\.(\\w+\\([^)]*\\)); +// (-?\\d+)").matcher(page);
        int calls = 0;
        while (line.find()) {
            room.is(line.group(1), Long.parseLong(line.group(2)));
            calls++;
        }
        Due.is("calls of the example are found", calls >= LEAST_CALLS ? 1 : 0, 1);
        long lines = Pattern.compile("(?m)^room\\.").matcher(page).results().count();
        Due.is("each of them tells its answer", calls, lines);
    }

    private static void constants(String page) throws IllegalAccessException {
        for (Field field : ReadersRoom.class.getDeclaredFields()) {
            if (Modifier.isPublic(field.getModifiers())) {
                int number = field.getInt(null);
                String told = "`" + field.getName() + "`( \\||) \\(?" + number + "\\b";
                Due.is("README.md tells " + field.getName(), Pattern.compile(told).matcher(page).find() ? 1 : 0, 1);
            }
        }
    }
}
