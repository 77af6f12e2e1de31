import java.io.IOException;
import java.lang.reflect.Method;
import java.lang.reflect.Modifier;
import java.nio.file.Files;
import java.nio.file.Path;
import java.util.List;
import java.util.Set;
import java.util.TreeSet;
import java.util.regex.Matcher;
import java.util.regex.Pattern;

/** README.md: its example answers what it says, and each call of the face stands in it. */
public final class ReadmeTest {
    private static final Pattern MADE = Pattern.compile("GateTimes belt = new GateTimes\\((\\d+)\\);");
    private static final Pattern CALL =
        Pattern.compile("belt\\.(\\w+)\\((.*)\\);\\s+// (-?\\d+|UNKNOWN|OUTSIDE|ROOM)(\\s.*)?");

    public static void main(String[] args) throws IOException, ReflectiveOperationException {
        // .ci/run starts every test in the project's own directory.
        List<String> lines = Files.readAllLines(Path.of("README.md"));
        Set<String> shown = runExample(lines);
        for (Method method : GateTimes.class.getDeclaredMethods()) {
            if (Modifier.isPublic(method.getModifiers())) {
                String name = method.getName();
                Due.due("the example shows " + name, shown.contains(name) ? 1 : 0, 1);
                Due.due("rows that tell of " + name, rowsOf(lines, name), 1);
            }
        }
        Due.end();
    }

    /** Runs the example's calls, and answers their names. */
    private static Set<String> runExample(List<String> lines) throws ReflectiveOperationException {
        Set<String> shown = new TreeSet<>();
        GateTimes belt = null;
        for (String line : lines) {
            Matcher made = MADE.matcher(line);
            Matcher call = CALL.matcher(line);
            if (made.matches()) {
                belt = new GateTimes(Integer.parseInt(made.group(1)));
            } else if (call.matches() && belt != null) {
                shown.add(call.group(1));
                Due.due(line, answer(belt, call.group(1), call.group(2)), number(call.group(3)));
            } else {
                Due.due("a line of the example that is not run: " + line,
                    line.startsWith("belt") ? 1 : 0, 0);
            }
        }
        return shown;
    }

    private static int answer(GateTimes belt, String name, String written)
            throws ReflectiveOperationException {
        String[] words = written.split(", ");
        Method method = methodOf(name);
        Class<?>[] types = method.getParameterTypes();
        Object[] values = new Object[types.length];
        for (int k = 0; k < types.length; k++) {
            values[k] = valueOf(types[k], words[k]);
        }
        return (Integer) method.invoke(belt, values);
    }

    private static Method methodOf(String name) throws NoSuchMethodException {
        for (Method method : GateTimes.class.getMethods()) {
            if (method.getName().equals(name)) {
                return method;
            }
        }
        throw new NoSuchMethodException(name);
    }

    private static Object valueOf(Class<?> type, String word) {
        if (type == boolean.class) {
            return Boolean.valueOf(word);
        }
        return type == long.class ? (Object) Long.valueOf(word) : (Object) Integer.valueOf(word);
    }

    private static int number(String word) {
        switch (word) {
            case "UNKNOWN":
                return GateTimes.UNKNOWN;
            case "OUTSIDE":
                return GateTimes.OUTSIDE;
            case "ROOM":
                return GateTimes.ROOM;
            default:
                return Integer.parseInt(word);
        }
    }

    private static int rowsOf(List<String> lines, String name) {
        int rows = 0;
        for (String line : lines) {
            rows += line.startsWith("| `" + name + "(") ? 1 : 0;
        }
        return rows;
    }
}
