import java.io.IOException;
import java.lang.reflect.InvocationTargetException;
import java.lang.reflect.Method;
import java.lang.reflect.Modifier;
import java.nio.file.Files;
import java.nio.file.Path;
import java.util.List;
import java.util.regex.Matcher;
import java.util.regex.Pattern;

/** README.md: the answers that its examples tell, and that it tells of each call. */
public final class ReadmeTest {
    private static final Pattern CALL = Pattern.compile("land\\.(\\w+)\\((.*)\\); *// (-?\\d+)(:.*)?");
    private static final Check check = new Check("ReadmeTest");

    public static void main(String[] args) throws IOException, IllegalAccessException, InvocationTargetException {
        List<String> lines = Files.readAllLines(Path.of("README.md"));
        examples(lines);
        calls(String.join("\n", lines));
        check.end();
    }

    private static void examples(List<String> lines) throws IllegalAccessException, InvocationTargetException {
        WireOfLand land = null;
        boolean isExample = false;
        for (String line : lines) {
            if (line.startsWith("```")) {
                isExample = line.equals("```java");
            } else if (isExample && line.equals("WireOfLand land = new WireOfLand();")) {
                land = new WireOfLand();
            } else if (isExample) {
                example(land, line);
            }
        }
    }

    private static void example(WireOfLand land, String line) throws IllegalAccessException, InvocationTargetException {
        Matcher call = CALL.matcher(line);
        if (!call.matches()) {
            check.holds("a line that cannot be run: " + line, false);
            return;
        }
        for (Method m : WireOfLand.class.getMethods()) {
            if (m.getName().equals(call.group(1))) {
                Object got = m.invoke(land, values(m.getParameterTypes(), call.group(2)));
                check.due(line, (Integer) got, Integer.parseInt(call.group(3)));
            }
        }
    }

    private static Object[] values(Class<?>[] types, String arguments) {
        String[] told = arguments.isEmpty() ? new String[0] : arguments.split(", ");
        Object[] values = new Object[told.length];
        for (int i = 0; i < told.length; i++) {
            values[i] = types[i] == boolean.class ? (Object) Boolean.valueOf(told[i])
                : types[i] == long.class ? (Object) Long.decode(told[i].replace("L", ""))
                : (Object) Integer.valueOf(told[i]);
        }
        return values;
    }

    private static void calls(String readme) {
        for (Method m : WireOfLand.class.getDeclaredMethods()) {
            if (Modifier.isPublic(m.getModifiers())) {
                check.holds("no row tells of " + m.getName(), readme.contains("| `" + m.getName() + "("));
            }
        }
    }
}
