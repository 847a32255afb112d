import java.io.IOException;
import java.lang.reflect.Method;
import java.lang.reflect.Modifier;
import java.nio.file.Files;
import java.nio.file.Path;
import java.util.regex.Matcher;
import java.util.regex.Pattern;

/** README.md shows the class as it is: its example answers what it says, and no call is left out. */
public final class ReadmeTest {
    private static final Pattern EXAMPLE = Pattern.compile("(?s)```java\n(.*?)```");
    private static final Pattern NET = Pattern.compile("\"([^\"]*)\"\\.toCharArray\\(\\)");
    private static final Pattern CALL = Pattern.compile("(?m)^x\\.(\\w+)\\(([^)]*)\\);\\s*// (-?\\w+)");
    private static final Check CHECK = new Check();

    public static void main(String[] args) throws IOException, ReflectiveOperationException {
        String text = Files.readString(Path.of("README.md"));
        Matcher example = EXAMPLE.matcher(text);
        CHECK.due("has an example", example.find() ? 1 : 0, 1);
        follow(example.group(1));
        tellsEachCall(text);
        CHECK.end();
    }

    private static void follow(String example) throws ReflectiveOperationException {
        CloseClocks x = new CloseClocks();
        Matcher net = NET.matcher(example);
        CHECK.due("types a net", net.find() ? 1 : 0, 1);
        Check.type(x, net.group(1));
        Matcher calls = CALL.matcher(example);
        int followed = 0;
        while (calls.find()) {
            String call = calls.group(1) + "(" + calls.group(2) + ")";
            CHECK.due("README: " + call, answer(x, calls.group(1), calls.group(2)), number(calls.group(3)));
            followed++;
        }
        // The line that types the letters, inside its loop, is the only one without an answer.
        CHECK.due("calls with an answer", followed, example.lines().filter(line -> line.startsWith("x.")).count());
        CHECK.due("calls followed", followed > 0 ? 1 : 0, 1);
    }

    private static long answer(CloseClocks x, String name, String numbers) throws ReflectiveOperationException {
        String[] parts = numbers.isBlank() ? new String[0] : numbers.split(",");
        Class<?>[] kinds = new Class<?>[parts.length];
        Object[] given = new Object[parts.length];
        for (int i = 0; i < parts.length; i++) {
            kinds[i] = int.class;
            given[i] = Integer.parseInt(parts[i].trim());
        }
        return ((Number) CloseClocks.class.getMethod(name, kinds).invoke(x, given)).longValue();
    }

    private static long number(String word) throws ReflectiveOperationException {
        return word.matches("-?\\d+") ? Long.parseLong(word) : CloseClocks.class.getField(word).getInt(null);
    }

    private static void tellsEachCall(String text) {
        for (Method method : CloseClocks.class.getDeclaredMethods()) {
            if (Modifier.isPublic(method.getModifiers())) {
                CHECK.due("tells " + method.getName(), text.contains("`" + method.getName() + "(") ? 1 : 0, 1);
            }
        }
    }
}
