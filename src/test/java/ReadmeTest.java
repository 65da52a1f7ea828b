import java.io.IOException;
import java.lang.reflect.Method;
import java.lang.reflect.Modifier;
import java.nio.file.Files;
import java.nio.file.Path;
import java.util.Map;
import java.util.TreeMap;
import java.util.regex.Matcher;
import java.util.regex.Pattern;

/** Makes the calls that README.md shows, in its order: each answer is the one it tells. */
public final class ReadmeTest {
    private static final Path README = Path.of("README.md");
    private static final Pattern CALL = Pattern.compile("x\\.(\\w+)\\((.*)\\);\\s+// (-?\\w+).*");

    private static int faults;

    public static void main(String[] args) throws Exception {
        Map<String, Method> unseen = face();
        int calls = makeCalls(unseen);
        for (String name : unseen.keySet()) {
            fault("no call of " + name + " is shown");
        }
        if (faults > 0) {
            System.exit(1);
        }
        System.out.println(calls + " calls answer as README.md says");
    }

    private static Map<String, Method> face() {
        Map<String, Method> face = new TreeMap<>();
        for (Method method : NoughtSums.class.getDeclaredMethods()) {
            if (Modifier.isPublic(method.getModifiers())) {
                face.put(method.getName(), method);
            }
        }
        return face;
    }

    private static int makeCalls(Map<String, Method> unseen) throws Exception {
        Map<String, Method> face = face();
        NoughtSums x = new NoughtSums();
        int calls = 0;
        for (String line : Files.readAllLines(README)) {
            if (!line.startsWith("x.")) {
                continue;
            }
            Matcher call = CALL.matcher(line);
            if (!call.matches() || !face.containsKey(call.group(1))) {
                fault("is no call with its answer: " + line);
                continue;
            }
            Method method = face.get(call.group(1));
            unseen.remove(call.group(1));
            long answer = ((Number) method.invoke(x, arguments(method, call.group(2)))).longValue();
            if (answer != number(call.group(3))) {
                fault("answers " + answer + ": " + line);
            }
            calls++;
        }
        return calls;
    }

    private static Object[] arguments(Method method, String told) throws Exception {
        String[] parts = told.isEmpty() ? new String[0] : told.split(", ");
        Class<?>[] types = method.getParameterTypes();
        if (parts.length != types.length) {
            throw new IOException(method.getName() + " takes other arguments than " + told);
        }
        Object[] arguments = new Object[types.length];
        for (int i = 0; i < types.length; i++) {
            long value = number(parts[i]);
            if (types[i] == int.class) {
                arguments[i] = Math.toIntExact(value);
            } else {
                arguments[i] = value;
            }
        }
        return arguments;
    }

    /** A number, a letter between ticks, or a constant of the class. */
    private static long number(String told) throws Exception {
        if (told.matches("'.'")) {
            return told.charAt(1);
        }
        if (told.matches("-?\\d+")) {
            return Long.parseLong(told);
        }
        return ((Number) NoughtSums.class.getField(told).get(null)).longValue();
    }

    private static void fault(String what) {
        System.out.println("README.md: " + what);
        faults++;
    }
}
