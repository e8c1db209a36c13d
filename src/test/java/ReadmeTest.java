import java.io.IOException;
import java.lang.reflect.InvocationTargetException;
import java.lang.reflect.Method;
import java.nio.file.Files;
import java.nio.file.Path;
import java.util.ArrayList;
import java.util.HashMap;
import java.util.List;
import java.util.Map;
import java.util.regex.Matcher;
import java.util.regex.Pattern;

/** README.md's example, line by line: each call answers what its comment begins with. */
public final class ReadmeTest {
    private static final Pattern LINE = Pattern.compile(
            "(?:int (\\w+) = )?house\\.(\\w+)\\((.*?)\\);(?:\\s*// (throws \\w+|[\\w-]+).*)?");

    private final Due due = new Due();
    private final StrataHouse house = new StrataHouse();
    private final Map<String, Object> named = new HashMap<>(Map.of("true", true, "false", false));
    private int calls;

    /** It is run from the project's folder, where README.md stands. */
    public static void main(String[] args) throws IOException, IllegalAccessException {
        ReadmeTest test = new ReadmeTest();
        for (String line : example(Files.readString(Path.of("README.md")))) {
            test.check(line);
        }
        test.due.same("calls in the example", test.calls > 30 ? "enough" : "too few", "enough");
        test.due.end();
    }

    private static List<String> example(String readme) {
        Matcher block = Pattern.compile("```java\n(.*?)```", Pattern.DOTALL).matcher(readme);
        return block.find() ? block.group(1).lines().filter(line -> !line.isBlank()).toList() : List.of();
    }

    private void check(String line) throws IllegalAccessException {
        Matcher call = LINE.matcher(line);
        if (!call.matches()) {
            due.same("the line", line, "StrataHouse house = new StrataHouse();");
            return;
        }
        calls++;
        Method method = methodOf(call.group(2));
        Object answer = answerOf(method, call.group(3));
        if (call.group(1) != null) {
            named.put(call.group(1), answer);
        }
        String want = method.getReturnType() == void.class ? "null" : call.group(4);
        due.same(line, String.valueOf(answer), String.valueOf(want));
    }

    private static Method methodOf(String name) {
        for (Method method : StrataHouse.class.getMethods()) {
            if (method.getName().equals(name)) {
                return method;
            }
        }
        throw new AssertionError("no method " + name);
    }

    private Object answerOf(Method method, String given) throws IllegalAccessException {
        List<Object> values = new ArrayList<>();
        for (String text : given.isEmpty() ? new String[0] : given.split(", ")) {
            values.add(named.containsKey(text) ? named.get(text) : (Object) Integer.valueOf(text));
        }
        try {
            return method.invoke(house, values.toArray());
        } catch (InvocationTargetException e) {
            return "throws " + e.getCause().getClass().getSimpleName();
        }
    }
}
