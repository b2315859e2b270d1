import java.lang.reflect.InvocationTargetException;
import java.lang.reflect.Method;
import java.nio.charset.StandardCharsets;
import java.nio.file.Files;
import java.nio.file.Path;
import java.util.regex.Matcher;
import java.util.regex.Pattern;

/** The calls of README.md answer what stands behind them there; the path of the class is the argument. */
public final class ReadmeTest {
    private static final Answers A = new Answers("ReadmeTest");
    private static final Pattern CALL = Pattern.compile("(?m)^zones\\.(\\w+)\\(([^)]*)\\);\\s*// (-?\\d+)\\b");

    public static void main(String[] args) throws Exception {
        Path root = Path.of(args[0]).toAbsolutePath().getParent().getParent().getParent().getParent();
        String readme = new String(Files.readAllBytes(root.resolve("README.md")), StandardCharsets.UTF_8);
        AppendZones zones = new AppendZones();
        Matcher m = CALL.matcher(readme);
        int calls = 0;
        while (m.find()) {
            calls++;
            String call = m.group(1) + "(" + m.group(2) + ")";
            A.due(call, called(zones, m.group(1), m.group(2)), Integer.parseInt(m.group(3)));
        }
        A.due("calls with an answer", calls, readme.split("(?m)^zones\\.", -1).length - 1);
        A.dueTrue("README.md names every call", namesEveryCall(readme));
        A.end();
    }

    private static int called(AppendZones zones, String name, String given) throws IllegalAccessException, InvocationTargetException {
        for (Method method : AppendZones.class.getMethods()) {
            if (method.getName().equals(name)) {
                return (Integer) method.invoke(zones, values(given));
            }
        }
        throw new IllegalStateException("README.md calls " + name + ", which is no method");
    }

    private static Object[] values(String given) {
        if (given.isEmpty()) {
            return new Object[0];
        }
        String[] parts = given.split(", ");
        Object[] values = new Object[parts.length];
        for (int i = 0; i < parts.length; i++) {
            values[i] = value(parts[i]);
        }
        return values;
    }

    private static Object value(String part) {
        if (part.startsWith("'")) {
            return part.charAt(1);
        }
        if (part.equals("true") || part.equals("false")) {
            return part.equals("true");
        }
        return Integer.parseInt(part);
    }

    private static boolean namesEveryCall(String readme) {
        boolean all = true;
        for (Method method : AppendZones.class.getDeclaredMethods()) {
            boolean isPublic = java.lang.reflect.Modifier.isPublic(method.getModifiers());
            all &= !isPublic || readme.contains("`" + method.getName() + "`");
        }
        return all;
    }
}
