import java.io.IOException;
import java.lang.reflect.Method;
import java.nio.file.Files;
import java.nio.file.Path;
import java.util.ArrayList;
import java.util.List;
import java.util.regex.Matcher;
import java.util.regex.Pattern;

/** Makes the calls of README.md's examples; each has to answer what the page tells. Run from the project's folder. */
public final class ReadmeTest extends Checks {
    private static final Pattern CALL = Pattern.compile("meter\\.(\\w+)\\((.*)\\);\\s+// (-?\\d+).*");

    public static void main(String[] args) throws IOException, ReflectiveOperationException {
        part("README.md");
        FareDrops meter = null;
        int meters = 0;
        int calls = 0;
        for (String line : Files.readAllLines(Path.of("README.md"))) {
            if (line.equals("FareDrops meter = new FareDrops();")) {
                meter = new FareDrops();
                meters++;
            } else if (line.startsWith("meter.")) {
                Matcher call = CALL.matcher(line);
                due("an answer is told: " + line, call.matches() ? 1 : 0, 1);
                due(line, answerOf(meter, call.group(1), call.group(2)), Long.parseLong(call.group(3)));
                calls++;
            }
        }
        due("examples", meters, 2);
        due("calls", calls, 22);
        close();
    }

    private static int answerOf(FareDrops meter, String name, String arguments) throws ReflectiveOperationException {
        for (Method method : FareDrops.class.getMethods()) {
            if (method.getName().equals(name) && method.getDeclaringClass() == FareDrops.class) {
                return (Integer) method.invoke(meter, valuesOf(method, arguments));
            }
        }
        throw new IllegalStateException("no method " + name);
    }

    private static Object[] valuesOf(Method method, String arguments) {
        List<Object> values = new ArrayList<>();
        for (String argument : arguments.isEmpty() ? new String[0] : arguments.split(", ")) {
            boolean isLong = method.getParameterTypes()[values.size()] == long.class;
            long value = valueOf(argument);
            values.add(isLong ? (Object) value : (Object) (int) value);
        }
        return values.toArray();
    }

    private static long valueOf(String argument) {
        if (argument.startsWith("'")) {
            return argument.charAt(1);
        }
        return Long.decode(argument.replace("L", ""));
    }
}
