import java.io.IOException;
import java.lang.reflect.Method;
import java.nio.file.Files;
import java.nio.file.Path;
import java.util.regex.Matcher;
import java.util.regex.Pattern;

/** The example of README.md: each of its calls answers the number that stands beside it. */
public final class ReadmeTest {
    private static final Pattern CALL = Pattern.compile("jet\\.(\\w+)\\(([^()]*)\\)\\)?; +// (-?\\d+)");
    private static final Pattern BLOCK = Pattern.compile("(?s)```java\n(.*?)```");

    private ReadmeTest() {
    }

    private static Object argument(String word, Class<?> type) {
        if (type == boolean.class) {
            return word.equals("true");
        }
        long number = Long.decode(word.replace("L", ""));
        return type == long.class ? (Object) number : (Object) (int) number;
    }

    private static int answer(JetStarts jet, String name, String words) throws ReflectiveOperationException {
        String[] given = words.isEmpty() ? new String[0] : words.split(", ");
        for (Method method : JetStarts.class.getMethods()) {
            Class<?>[] types = method.getParameterTypes();
            if (method.getDeclaringClass() == JetStarts.class && method.getName().equals(name)
                && types.length == given.length) {
                Object[] arguments = new Object[given.length];
                for (int at = 0; at < given.length; at++) {
                    arguments[at] = argument(given[at], types[at]);
                }
                return (int) method.invoke(jet, arguments);
            }
        }
        throw new NoSuchMethodException(name + "(" + words + ")");
    }

    public static void main(String[] args) throws IOException, ReflectiveOperationException {
        Matcher block = BLOCK.matcher(Files.readString(Path.of("README.md")));
        Due.due("README.md has an example", block.find() ? 1 : 0, 1);
        String example = block.group(1);
        int calls = 0;
        JetStarts jet = new JetStarts();
        for (String line : example.split("\n")) {
            Matcher call = CALL.matcher(line);
            if (call.find()) {
                calls++;
                int wanted = Integer.parseInt(call.group(3));
                Due.due(line.strip(), answer(jet, call.group(1), call.group(2)), wanted);
            }
        }
        Due.due("calls with an answer beside them", calls, example.split("jet\\.", -1).length - 1);
        Due.end();
    }
}
