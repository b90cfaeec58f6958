import java.io.IOException;
import java.lang.reflect.Method;
import java.lang.reflect.Modifier;
import java.nio.file.Files;
import java.nio.file.Path;
import java.util.Arrays;
import java.util.HashMap;
import java.util.Map;
import java.util.regex.Matcher;
import java.util.regex.Pattern;

/** The calls that README.md shows, run as they stand there: each answers the number behind it. */
public final class ReadmeTest {
    private static final Pattern MADE = Pattern.compile("HeaderLine line = new HeaderLine\\((-?\\d+)\\);.*");
    private static final Pattern CALL =
            Pattern.compile("(?:(?:int|long) (\\w+) = )?line\\.(\\w+)\\(([^)]*)\\); +// (-?\\d+)(?:: .*)?");

    private static final Map<String, Long> NAMED = new HashMap<>();
    private static HeaderLine line;

    public static void main(String[] args) throws IOException, ReflectiveOperationException {
        Path project = Path.of(System.getProperty("project", "."));
        String text = Files.readString(project.resolve("README.md"));
        Matcher blocks = Pattern.compile("(?s)```java\n(.*?)```").matcher(text);
        while (blocks.find()) {
            for (String row : blocks.group(1).split("\n")) {
                run(row);
            }
        }
        Due.holds("README.md shows calls", line != null);
        for (Method m : HeaderLine.class.getDeclaredMethods()) {
            boolean isTold = text.contains("`" + m.getName() + "`");
            Due.holds("README.md tells what " + m.getName() + " is for", isTold || !Modifier.isPublic(m.getModifiers()));
        }
        Due.finish();
    }

    private static void run(String row) throws ReflectiveOperationException {
        Matcher made = MADE.matcher(row);
        if (made.matches()) {
            line = new HeaderLine(Integer.parseInt(made.group(1)));
            NAMED.clear();
            return;
        }
        Matcher call = CALL.matcher(row);
        boolean isCall = call.matches() && line != null;
        Due.holds("a call with its answer: " + row, isCall);
        if (!isCall) {
            return;
        }
        long answer = answer(call.group(2), call.group(3).split(", "));
        Due.is(row, answer, Long.parseLong(call.group(4)));
        if (call.group(1) != null) {
            NAMED.put(call.group(1), answer);
        }
    }

    private static long answer(String name, String[] words) throws ReflectiveOperationException {
        Method method = Arrays.stream(HeaderLine.class.getDeclaredMethods())
                .filter(m -> m.getName().equals(name)).findFirst().orElseThrow();
        Object[] arguments = new Object[words.length];
        for (int i = 0; i < words.length; i++) {
            arguments[i] = argument(method.getParameterTypes()[i], words[i]);
        }
        return ((Number) method.invoke(line, arguments)).longValue();
    }

    private static Object argument(Class<?> type, String word) {
        if (type == boolean.class) {
            return word.equals("true");
        }
        long value = NAMED.containsKey(word) ? NAMED.get(word) : Long.parseLong(word);
        if (type == long.class) {
            return value;
        }
        return (int) value;
    }
}
