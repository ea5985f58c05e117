import java.io.IOException;
import java.lang.reflect.Method;
import java.lang.reflect.Modifier;
import java.nio.file.Files;
import java.nio.file.Path;
import java.util.ArrayList;
import java.util.Arrays;
import java.util.HashSet;
import java.util.List;
import java.util.Set;
import java.util.regex.Matcher;
import java.util.regex.Pattern;
import java.util.stream.Stream;

/** README.md: its example answers as it says, and it leaves out no call and no test. */
public final class ReadmeTest {
    private static final Pattern CALL =
            Pattern.compile("desk\\.(\\w+)\\(([-0-9, ]*)\\); *// (true|false|-?[0-9]+): .+");
    private static final Due due = new Due();

    public static void main(String[] args) throws IOException, ReflectiveOperationException {
        String readme = Files.readString(Path.of("README.md"));
        Set<String> called = runExample(exampleOf(readme));
        for (Method method : PartitionDesk.class.getDeclaredMethods()) {
            if (Modifier.isPublic(method.getModifiers())) {
                due.yes("the example calls " + method.getName(), called.contains(method.getName()));
                due.yes("a row for " + method.getName(), readme.contains("| `" + method.getName() + "("));
            }
        }
        everyTestIsNamed(readme);
        due.end();
    }

    private static List<String> exampleOf(String readme) {
        String begin = "```java\n";
        int from = readme.indexOf(begin) + begin.length();
        return List.of(readme.substring(from, readme.indexOf("```", from)).split("\n"));
    }

    private static Set<String> runExample(List<String> lines) throws ReflectiveOperationException {
        due.same("the first line", lines.get(0), "PartitionDesk desk = new PartitionDesk();");
        PartitionDesk desk = new PartitionDesk();
        Set<String> called = new HashSet<>();
        for (String line : lines.subList(1, lines.size())) {
            Matcher call = CALL.matcher(line);
            due.yes("a call with its answer: " + line, call.matches());
            if (call.matches()) {
                due.same(line, answer(desk, call.group(1), call.group(2)), call.group(3));
                called.add(call.group(1));
            }
        }
        return called;
    }

    private static String answer(PartitionDesk desk, String name, String numbers)
            throws ReflectiveOperationException {
        List<Object> values = new ArrayList<>();
        for (String number : numbers.isEmpty() ? new String[0] : numbers.split(", ")) {
            values.add(Integer.valueOf(number));
        }
        Class<?>[] types = new Class<?>[values.size()];
        Arrays.fill(types, int.class);
        return String.valueOf(PartitionDesk.class.getMethod(name, types).invoke(desk, values.toArray()));
    }

    private static void everyTestIsNamed(String readme) throws IOException {
        try (Stream<Path> files = Files.list(Path.of("src/test/java"))) {
            for (Path file : files.toList()) {
                String name = file.getFileName().toString().replace(".java", "");
                due.yes(name + " is named", readme.contains("`" + name + "`"));
            }
        }
    }
}
