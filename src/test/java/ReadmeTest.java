import java.io.IOException;
import java.lang.reflect.Method;
import java.lang.reflect.Modifier;
import java.nio.file.Files;
import java.nio.file.Path;
import java.util.regex.Matcher;
import java.util.regex.Pattern;

/** The example of README.md answers what is told behind each of its calls, and README.md names every call. */
final class ReadmeTest {
    private static final Pattern CALL = Pattern.compile("room\\.(\\w+)\\(([-\\d, ]*)\\); +// (-?\\d+)(:.*)?");

    public static void main(String[] args) throws IOException {
        String readme = Files.readString(Path.of("README.md"));
        example(between(readme, "```java\n", "```"));
        names(readme);
        Due.end();
    }

    private static String between(String text, String begin, String end) {
        int from = text.indexOf(begin) + begin.length();
        return text.substring(from, text.indexOf(end, from));
    }

    private static void example(String code) {
        TypeRoom room = new TypeRoom();
        int calls = 0;
        for (String line : code.split("\n")) {
            Matcher found = CALL.matcher(line);
            if (found.matches()) {
                calls++;
                long got = Caller.call(room, found.group(1), numbers(found.group(2)));
                Due.is("README.md: " + line, got, Long.parseLong(found.group(3)));
            } else {
                Due.isTrue("README.md: a call with its answer: " + line, line.contains("new TypeRoom()"));
            }
        }
        Due.isTrue("README.md has an example", calls > 0);
    }

    private static int[] numbers(String text) {
        String[] parts = text.isEmpty() ? new String[0] : text.split(", *");
        int[] numbers = new int[parts.length];
        for (int i = 0; i < parts.length; i++) {
            numbers[i] = Integer.parseInt(parts[i]);
        }
        return numbers;
    }

    private static void names(String readme) {
        for (Method method : TypeRoom.class.getDeclaredMethods()) {
            if (Modifier.isPublic(method.getModifiers())) {
                Matcher found = Pattern.compile("`" + method.getName() + "[`(]").matcher(readme);
                Due.isTrue("README.md names " + method.getName(), found.find());
            }
        }
    }
}
