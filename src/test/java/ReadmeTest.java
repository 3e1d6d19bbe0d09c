import java.io.IOException;
import java.lang.reflect.InvocationTargetException;
import java.lang.reflect.Method;
import java.nio.file.Files;
import java.nio.file.Path;
import java.util.HashMap;
import java.util.List;
import java.util.Map;
import java.util.Set;
import java.util.TreeSet;
import java.util.regex.Matcher;
import java.util.regex.Pattern;

/** The calls of README.md's example answer what stands behind them, and every method of the class is among them. */
public final class ReadmeTest {
    private static final String BEGIN = "PlacePoints plane = new PlacePoints();";
    /** [int name = ]plane.method(arguments); // answer[: words] */
    private static final Pattern CALL = Pattern.compile(
        "(?:int (\\w+) = )?plane\\.(\\w+)\\(([^)]*)\\); +// (-?\\d+|throws ArrayIndexOutOfBoundsException)(?:: .*)?");

    private final Due due = new Due();
    private final PlacePoints plane = new PlacePoints();
    private final Map<String, Integer> numbers = new HashMap<>();
    private final Map<String, Method> methods = new HashMap<>();
    private final Set<String> called = new TreeSet<>();

    /** From the project's folder, where README.md stands. */
    public static void main(String[] args) throws IOException, IllegalAccessException {
        new ReadmeTest().run(Files.readAllLines(Path.of("README.md")));
    }

    private void run(List<String> lines) throws IllegalAccessException {
        for (Method method : PlacePoints.class.getMethods()) {
            if (method.getDeclaringClass() == PlacePoints.class) {
                methods.put(method.getName(), method);
            }
        }
        int begin = lines.indexOf(BEGIN);
        due.is("README.md has the line \"" + BEGIN + "\"", begin >= 0 ? 1 : 0, 1);
        for (int i = begin + 1; begin >= 0 && i < lines.size() && !lines.get(i).startsWith("```"); i++) {
            line(lines.get(i));
        }
        due.is("every method is called, called are " + called, called.equals(methods.keySet()) ? 1 : 0, 1);
        due.end();
    }

    private void line(String line) throws IllegalAccessException {
        Matcher call = CALL.matcher(line);
        boolean isCall = call.matches() && methods.containsKey(call.group(2));
        due.is("\"" + line + "\" is a call of the class with its answer", isCall ? 1 : 0, 1);
        if (!isCall) {
            return;
        }
        called.add(call.group(2));
        long want = call.group(4).startsWith("throws") ? Due.THROWS : Long.parseLong(call.group(4));
        long got = answer(methods.get(call.group(2)), arguments(call.group(3)));
        due.is(line, got, want);
        if (call.group(1) != null) {
            numbers.put(call.group(1), (int) got);
        }
    }

    private Object[] arguments(String written) {
        if (written.isEmpty()) {
            return new Object[0];
        }
        String[] words = written.split(", ");
        Object[] values = new Object[words.length];
        for (int i = 0; i < words.length; i++) {
            values[i] = numbers.containsKey(words[i]) ? numbers.get(words[i]) : Integer.valueOf(words[i]);
        }
        return values;
    }

    private long answer(Method method, Object[] arguments) throws IllegalAccessException {
        try {
            return ((Number) method.invoke(plane, arguments)).longValue();
        } catch (InvocationTargetException e) {
            if (e.getCause().getClass() != ArrayIndexOutOfBoundsException.class) {
                throw new IllegalStateException(method + " threw", e.getCause());
            }
            return Due.THROWS;
        }
    }
}
