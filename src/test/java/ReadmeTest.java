import java.io.IOException;
import java.lang.reflect.Field;
import java.lang.reflect.Method;
import java.lang.reflect.Modifier;
import java.nio.file.Files;
import java.nio.file.Path;
import java.util.HashMap;
import java.util.Map;
import java.util.regex.Matcher;
import java.util.regex.Pattern;

/** README.md's examples answer what their comments say, and its tables name the whole face. */
public final class ReadmeTest {
    private static final Path README = Path.of("README.md");
    private static final Pattern EXAMPLE = Pattern.compile("(?s)```java\n(.*?)```");
    private static final Pattern MADE = Pattern.compile("OnceWire wire = new OnceWire\\((-?\\d+)\\);");
    private static final Pattern CALL =
            Pattern.compile("(?:int (\\w+) = )?wire\\.(\\w+)\\(([^)]*)\\); +// (-?\\w+)(?::.*)?");
    private static final Due DUE = new Due();

    public static void main(String[] args) throws IOException, ReflectiveOperationException {
        String text = Files.readString(README);
        int examples = 0;
        Matcher example = EXAMPLE.matcher(text);
        while (example.find()) {
            examples++;
            follow(example.group(1).split("\n"));
        }
        DUE.same("examples", examples, 3);
        methods(text);
        constants(text);
        DUE.yes("how to run the tests", text.contains("\n.ci/run\n"));
        DUE.end();
    }

    private static void follow(String[] lines) throws ReflectiveOperationException {
        Matcher made = MADE.matcher(lines[0]);
        if (!made.matches()) {
            DUE.wrong("an example does not begin with a new object: " + lines[0]);
            return;
        }
        OnceWire wire = new OnceWire(Integer.parseInt(made.group(1)));
        Map<String, Object> names = new HashMap<>();
        for (int i = 1; i < lines.length; i++) {
            Matcher call = CALL.matcher(lines[i]);
            if (!call.matches()) {
                DUE.wrong("an example's line is not understood: " + lines[i]);
                return;
            }
            Object said = invoke(wire, call.group(2), call.group(3), names);
            DUE.yes(lines[i] + " .. " + said, said.equals(meant(call.group(4), names)));
            if (call.group(1) != null) {
                names.put(call.group(1), said);
            }
        }
    }

    private static Object invoke(OnceWire wire, String name, String arguments, Map<String, Object> names)
            throws ReflectiveOperationException {
        String[] parts = arguments.isEmpty() ? new String[0] : arguments.split(", ");
        Object[] meant = new Object[parts.length];
        for (int i = 0; i < parts.length; i++) {
            meant[i] = meant(parts[i], names);
        }
        for (Method method : OnceWire.class.getMethods()) {
            if (method.getName().equals(name) && method.getDeclaringClass() == OnceWire.class) {
                return method.invoke(wire, meant);
            }
        }
        throw new NoSuchMethodException(name);
    }

    /** A number, a truth, a name given in the example, or a constant of the class. */
    private static Object meant(String word, Map<String, Object> names) throws ReflectiveOperationException {
        if (word.matches("-?\\d+")) {
            return Integer.valueOf(word);
        }
        if (word.equals("true") || word.equals("false")) {
            return Boolean.valueOf(word);
        }
        return names.containsKey(word) ? names.get(word) : OnceWire.class.getField(word).get(null);
    }

    /** Every call has a row of a table, with as many arguments as it takes. */
    private static void methods(String text) {
        for (Method method : OnceWire.class.getDeclaredMethods()) {
            if (Modifier.isPublic(method.getModifiers())) {
                int count = method.getParameterCount();
                String row = "(?m)^\\| `" + method.getName() + "\\("
                        + (count == 0 ? "" : "\\w+(, \\w+){" + (count - 1) + "}") + "\\)` \\| ";
                DUE.yes("a row for " + method.getName(), Pattern.compile(row).matcher(text).find());
            }
        }
    }

    private static void constants(String text) throws IllegalAccessException {
        for (Field field : OnceWire.class.getFields()) {
            String row = "\n| `" + field.getName() + "` | " + field.getInt(null) + " | ";
            DUE.yes("a row for " + field.getName(), text.contains(row));
        }
    }
}
