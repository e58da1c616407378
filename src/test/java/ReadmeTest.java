import java.io.IOException;
import java.lang.reflect.InvocationTargetException;
import java.lang.reflect.Method;
import java.nio.file.Files;
import java.nio.file.Path;
import java.util.HashMap;
import java.util.Map;
import java.util.regex.Matcher;
import java.util.regex.Pattern;

/** Makes the calls of README.md's example and compares each answer with the one that is told there. */
public final class ReadmeTest extends Cases {
    private static final Pattern EXAMPLE = Pattern.compile("```java\n(.*?)```", Pattern.DOTALL);
    private static final Pattern CALL = Pattern.compile("(?:int (\\w+) = )?x\\.(\\w+)\\((.*?)\\); +// (-?\\d+).*");
    private static final String FIRST = "TypeStarts x = new TypeStarts();";

    public static void main(String[] args) throws IOException, ReflectiveOperationException {
        about("README.md");
        Matcher example = EXAMPLE.matcher(Files.readString(Path.of("README.md")));
        if (!example.find()) fail("it has no example");
        else makeCalls(example.group(1).split("\n"));
        endWith("README.md's example answers as it says, " + compared() + " times");
    }

    private static void makeCalls(String[] lines) throws ReflectiveOperationException {
        TypeStarts x = new TypeStarts();
        Map<String, Integer> named = new HashMap<>();
        for (String line : lines) {
            if (line.isBlank() || line.equals(FIRST)) continue;
            Matcher call = CALL.matcher(line);
            if (!call.matches()) {
                fail("no call with its answer: " + line);
                continue;
            }
            int got = answer(x, call.group(2), call.group(3), named);
            due(line.substring(0, line.indexOf(';')), got, Integer.parseInt(call.group(4)));
            if (call.group(1) != null) named.put(call.group(1), got);
        }
    }

    private static int answer(TypeStarts x, String name, String arguments, Map<String, Integer> named)
            throws IllegalAccessException, InvocationTargetException {
        String[] words = arguments.isEmpty() ? new String[0] : arguments.split(", ");
        for (Method m : TypeStarts.class.getMethods()) {
            if (!m.getName().equals(name) || m.getParameterCount() != words.length) continue;
            Object[] values = new Object[words.length];
            for (int i = 0; i < words.length; i++) values[i] = valueOf(words[i], m.getParameterTypes()[i], named);
            return (int) m.invoke(x, values);
        }
        fail("there is no call " + name + "(" + arguments + ")");
        return NO_NUMBER;
    }

    private static Object valueOf(String word, Class<?> type, Map<String, Integer> named) {
        if (type == boolean.class) return Boolean.valueOf(word);
        Integer number = named.get(word);
        return number != null ? number : Integer.valueOf(word);
    }
}
