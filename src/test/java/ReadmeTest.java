import java.io.IOException;
import java.lang.reflect.InvocationTargetException;
import java.lang.reflect.Method;
import java.nio.file.Files;
import java.nio.file.Path;
import java.util.Map;
import java.util.Set;
import java.util.TreeMap;
import java.util.TreeSet;
import java.util.regex.Matcher;
import java.util.regex.Pattern;

/** The example of README.md: its calls are done as they stand there, so that what it says stays true. */
public final class ReadmeTest extends Checks {
    private static final Pattern CALL = Pattern.compile("book\\.(\\w+)\\((.*)\\); *// (\\S+):.*");

    private static Map<String, Method> face() {
        Map<String, Method> face = new TreeMap<>();
        for (Method method : BraidBook.class.getMethods()) {
            if (method.getDeclaringClass() == BraidBook.class) face.put(method.getName(), method);
        }
        return face;
    }

    private static double answer(BraidBook book, Method method, String arguments) {
        String[] words = arguments.split(", ");
        Object[] values = new Object[words.length];
        for (int i = 0; i < words.length; i++) values[i] = Integer.valueOf(words[i]);
        try {
            return ((Number) method.invoke(book, values)).doubleValue();
        } catch (InvocationTargetException | IllegalAccessException e) {
            throw new IllegalStateException(e.getCause());
        }
    }

    public static void main(String[] args) throws IOException {
        sentence("README.md");
        Map<String, Method> face = face();
        Set<String> called = new TreeSet<>();
        BraidBook book = new BraidBook();
        for (String line : Files.readAllLines(Path.of("README.md"))) {
            Matcher call = CALL.matcher(line);
            if (!call.matches()) continue;
            Method method = face.get(call.group(1));
            if (method == null) {
                dueText("a call of the face", "one of " + face.keySet(), line);
                continue;
            }
            called.add(call.group(1));
            due(line, Double.parseDouble(call.group(3)), answer(book, method, call.group(2)));
        }
        dueText("the example has each call of the face", face.keySet().toString(), called.toString());
        end();
    }
}
