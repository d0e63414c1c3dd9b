import java.io.IOException;
import java.lang.reflect.Method;
import java.lang.reflect.Modifier;
import java.nio.charset.StandardCharsets;
import java.nio.file.Files;
import java.nio.file.Path;
import java.util.Map;
import java.util.TreeSet;
import java.util.regex.Matcher;
import java.util.regex.Pattern;

/** README.md against the class: the example's answers, and a row of the table for each call. */
public final class ReadmeTest {
    private static final Pattern LINE = Pattern.compile("mouse\\.(\\w+)\\(([^)]*)\\); +// (\\S+).*");
    private static final Pattern ROW = Pattern.compile("\\| `(\\w+)\\(([^)]*)\\)` \\|.*");
    private static final Map<String, Long> NAMED = Map.of("BAD", -1L, "STATE", -2L, "FULL", -3L, "NONE", -9L,
        "NO", -1000000L);
    private static final int FEWEST_LINES = 10;
    private static final Checks CHECKS = new Checks();

    public static void main(String[] args) throws IOException, ReflectiveOperationException {
        TinMouse mouse = new TinMouse();
        TreeSet<String> rows = new TreeSet<>();
        int lines = 0;
        for (String line : Files.readAllLines(Path.of("README.md"), StandardCharsets.UTF_8)) {
            Matcher call = LINE.matcher(line);
            if (call.matches()) {
                lines++;
                checkLine(mouse, line, call);
            }
            Matcher row = ROW.matcher(line);
            if (row.matches()) {
                rows.add(row.group(1) + " " + partsOf(row.group(2)).length);
            }
        }
        CHECKS.due("lines of the example, at least " + FEWEST_LINES, lines >= FEWEST_LINES ? 1 : 0, 1);
        TreeSet<String> face = face();
        CHECKS.due("rows " + rows + " for the calls " + face, rows.equals(face) ? 1 : 0, 1);
        CHECKS.end();
    }

    private static void checkLine(TinMouse mouse, String line, Matcher call) throws ReflectiveOperationException {
        String[] parts = partsOf(call.group(2));
        Method method = methodOf(call.group(1));
        Object[] numbers = new Object[parts.length];
        for (int i = 0; i < parts.length; i++) {
            long v = Long.decode(parts[i].replace("L", ""));
            numbers[i] = method.getParameterTypes()[i] == long.class ? (Object) v : (Object) (int) v;
        }
        String want = call.group(3);
        long due = NAMED.containsKey(want) ? NAMED.get(want) : Long.parseLong(want);
        CHECKS.due("README.md: " + line, ((Number) method.invoke(mouse, numbers)).longValue(), due);
    }

    private static String[] partsOf(String parameters) {
        return parameters.isEmpty() ? new String[0] : parameters.split(", ");
    }

    private static Method methodOf(String name) {
        for (Method method : TinMouse.class.getDeclaredMethods()) {
            if (Modifier.isPublic(method.getModifiers()) && method.getName().equals(name)) {
                return method;
            }
        }
        throw new IllegalArgumentException("README.md calls what there is not: " + name);
    }

    private static TreeSet<String> face() {
        TreeSet<String> face = new TreeSet<>();
        for (Method method : TinMouse.class.getDeclaredMethods()) {
            if (Modifier.isPublic(method.getModifiers())) {
                face.add(method.getName() + " " + method.getParameterCount());
            }
        }
        return face;
    }
}
