import java.io.IOException;
import java.lang.reflect.Field;
import java.lang.reflect.Method;
import java.lang.reflect.Modifier;
import java.nio.file.Files;
import java.nio.file.Path;
import java.util.ArrayList;
import java.util.Arrays;
import java.util.List;
import java.util.regex.Matcher;
import java.util.regex.Pattern;
import java.util.stream.Stream;

/** Those rules of LANGUAGE.md that the text of the program shows; FaceTest has rules 1 and 5. */
public final class LanguageTest {
    private static final Path MAIN = Path.of("src/main/java");
    private static final Pattern HEADER = Pattern.compile("\\s+(?:[a-zA-Z\\[\\]]+ )*([a-zA-Z]+)\\([^;]*\\) \\{");
    private static final Due due = new Due();

    public static void main(String[] args) throws IOException {
        try (Stream<Path> files = Files.list(MAIN)) {
            due.same("one file", files.toList().toString(), List.of(MAIN.resolve("PartitionDesk.java")).toString());
        }
        String text = withoutComments(Files.readString(MAIN.resolve("PartitionDesk.java")));
        wordsThatAreNotThere(text);
        onlyConstructorsMakeRows(text);
        methodsAreShort(text);
        classesAreSmall();
        due.end();
    }

    private static String withoutComments(String text) {
        return text.replaceAll("(?s)/\\*.*?\\*/", "").replaceAll("//[^\n]*", "");
    }

    private static void wordsThatAreNotThere(String text) {
        due.says("rules 2 and 3");
        none(text, "->|::|\\b(long|double|float|Integer|var)\\b");
        due.says("rule 4");
        none(text, "\\b(package|import|java|System|Thread)\\b|\\bMath\\.(?!min\\b|max\\b|floorMod\\b)");
        due.says("rule 5");
        none(text, "\\bstatic\\s*\\{");
        due.says("rule 6");
        none(text, "\\b(throws?|try|catch|finally|synchronized|assert|equals|hashCode|toString)\\b");
        due.says("rule 9");
        none(text, "\\bwhile\\b|\\bfor\\s*\\([^;)]*;\\s*;");
    }

    private static void none(String text, String pattern) {
        Matcher found = Pattern.compile(pattern).matcher(text);
        due.same(pattern, found.find() ? found.group() : "", "");
    }

    /** All calls of a run live in one room, so no call makes anything. */
    private static void onlyConstructorsMakeRows(String text) {
        due.says("rule 12");
        String within = "";
        for (String line : text.split("\n")) {
            Matcher header = HEADER.matcher(line);
            if (header.matches()) {
                within = header.group(1);
            }
            if (line.contains("new ")) {
                due.yes(line + " in " + within, within.matches("[A-Z].*"));
            }
        }
    }

    private static void methodsAreShort(String text) {
        due.says("rule 11: some sixty lines");
        String within = "";
        int lines = 0;
        for (String line : text.split("\n")) {
            Matcher header = HEADER.matcher(line);
            boolean begins = header.matches();
            within = begins ? header.group(1) : within;
            lines = begins ? 1 : lines + 1;
            due.yes(within + " is short", within.isEmpty() || lines <= 60);
        }
    }

    private static void classesAreSmall() {
        due.says("rule 11");
        List<Class<?>> classes = new ArrayList<>(Arrays.asList(PartitionDesk.class.getDeclaredClasses()));
        classes.add(PartitionDesk.class);
        due.yes("some twelve classes", classes.size() <= 12);
        for (Class<?> one : classes) {
            int fields = 0;
            for (Field field : one.getDeclaredFields()) {
                fields += Modifier.isStatic(field.getModifiers()) ? 0 : 1;
            }
            due.yes("some twenty fields in " + one, fields <= 20);
            for (Method method : one.getDeclaredMethods()) {
                due.yes("seven parameters of " + method, method.getParameterCount() <= 7);
            }
        }
    }
}
