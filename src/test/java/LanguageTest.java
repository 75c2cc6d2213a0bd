import java.io.IOException;
import java.lang.reflect.Constructor;
import java.lang.reflect.Field;
import java.lang.reflect.Member;
import java.lang.reflect.Method;
import java.lang.reflect.Modifier;
import java.nio.file.Files;
import java.nio.file.Path;
import java.util.Arrays;
import java.util.Set;
import java.util.TreeSet;
import java.util.regex.Matcher;
import java.util.regex.Pattern;
import java.util.stream.Collectors;

/** The face of the class is the document's, and its text keeps to what LANGUAGE.md leaves, as far as a text tells. */
public final class LanguageTest {
    private static final Path SOURCE = Path.of("src/main/java/ReadersRoom.java");
    private static final Path DOCUMENT = Path.of("../shared/DOC.md");
    private static final int MOST_LINES = 60;

    public static void main(String[] args) throws IOException {
        String source = Files.readString(SOURCE);
        face(Files.readString(DOCUMENT));
        words(source);
        names(source);
        lengths(source);
        Due.end("LanguageTest");
    }

    private static void face(String document) {
        Set<String> due = new TreeSet<>();
        Matcher told = Pattern.compile("public (int|long) (\\w+)\\(([^)]*)\\);").matcher(document);
        while (told.find()) {
            String types = told.group(3).replaceAll("(\\w+) \\w+", "$1").replace(" ", "");
            due.add(told.group(1) + " " + told.group(2) + "(" + types + ")");
        }
        Set<String> is = new TreeSet<>();
        for (Method method : ReadersRoom.class.getDeclaredMethods()) {
            if (Modifier.isPublic(method.getModifiers())) {
                String types = Arrays.stream(method.getParameterTypes()).map(Class::getName)
                    .collect(Collectors.joining(","));
                is.add(method.getReturnType() + " " + method.getName() + "(" + types + ")");
            }
            hidden(method, Modifier.isPublic(method.getModifiers()));
        }
        Due.is("public methods", is.equals(due) ? 0 : is.size(), 0);
        Due.is("methods of the document", due.size(), 56);
        Set<String> constants = new TreeSet<>(Set.of("BAD", "FULL", "FINDING", "STATE", "SPENT", "NONE"));
        for (Field field : ReadersRoom.class.getDeclaredFields()) {
            hidden(field, constants.contains(field.getName()));
            Due.is(field.getName() + " static and not final", isLooseStatic(field) ? 1 : 0, 0);
        }
        Constructor<?>[] constructors = ReadersRoom.class.getDeclaredConstructors();
        Due.is("constructors", constructors.length, 1);
        Due.is("its parameters", constructors[0].getParameterCount(), 0);
        Due.is("a final class", Modifier.isFinal(ReadersRoom.class.getModifiers()) ? 1 : 0, 1);
    }

    private static boolean isLooseStatic(Field field) {
        return Modifier.isStatic(field.getModifiers()) && !Modifier.isFinal(field.getModifiers());
    }

    private static void hidden(Member member, boolean mayBePublic) {
        int modifiers = member.getModifiers();
        boolean fine = mayBePublic ? Modifier.isPublic(modifiers) : Modifier.isPrivate(modifiers);
        if (!fine && !member.isSynthetic()) {
            Due.complain(member + " is not as the face tells");
        }
    }

    private static void words(String source) {
        String code = source.replaceAll("(?s)/\\*.*?\\*/", " ").replaceAll("//[^\n]*", " ");
        String[] forbidden = {"\\bthrow\\b", "\\btry\\b", "\\bcatch\\b", "\\bsynchronized\\b", "\\bassert\\b", "->", "::",
            "\\bpackage\\b", "\\bprotected\\b", "\\bequals\\b", "\\bhashCode\\b", "\\btoString\\b", "Exact\\b",
            "\\bThread\\b", "MAX_VALUE", "MIN_VALUE", "\\bRandom\\b", "\\brecord\\b", "\\bvar\\b", "\\bdouble\\b", "\\bfloat\\b"};
        for (String word : forbidden) {
            Due.is(word, Pattern.compile(word).matcher(code).find() ? 1 : 0, 0);
        }
        Matcher imported = Pattern.compile("import ([^;]+);").matcher(code);
        while (imported.find()) {
            Due.is(imported.group(1), imported.group(1).equals("java.util.ArrayList") ? 0 : 1, 0);
        }
        Due.is("signs beyond 127", source.chars().filter(sign -> sign > 127).count(), 0);
        long classes = Pattern.compile("(?m)^    private static final class ").matcher(code).results().count();
        Due.is("more than twelve classes", classes + 1 > 12 ? 1 : 0, 0);
    }

    /** No other method bears a public one's name, those of the classes inside too; none has over seven parameters. */
    private static void names(String source) {
        Set<String> publics = new TreeSet<>();
        for (Method method : ReadersRoom.class.getMethods()) {
            publics.add(method.getName());
        }
        Pattern header = Pattern.compile("(?m)^ +(public )?(?:private )?(?:static )?(?:\\w+(?:\\[\\])? )(\\w+)\\(([^)]*)\\) \\{");
        Matcher found = header.matcher(source);
        int methods = 0;
        while (found.find()) {
            methods++;
            boolean named = found.group(1) == null && publics.contains(found.group(2));
            Due.is(found.group(2) + " bears a public name", named ? 1 : 0, 0);
            Due.is(found.group(2) + " has more than seven parameters", found.group(3).split(",").length > 7 ? 1 : 0, 0);
        }
        Due.is("methods are found", methods > 100 ? 1 : 0, 1);
    }

    private static void lengths(String source) {
        int begun = -1;
        String[] lines = source.split("\n");
        for (int i = 0; i < lines.length; i++) {
            if (lines[i].matches(" {4}( {4})?(public |private |static |final )*[\\w<>\\[\\]]+ ?\\w*\\(.*\\) \\{")) {
                begun = i;
            } else if (begun >= 0 && lines[i].matches(" {4}( {4})?\\}")
                && lines[i].indexOf('}') == lines[begun].length() - lines[begun].stripLeading().length()) {
                Due.is(lines[begun].strip() + " has " + (i - begun) + " lines", i - begun > MOST_LINES ? 1 : 0, 0);
                begun = -1;
            }
        }
    }
}
