import java.io.IOException;
import java.lang.reflect.Constructor;
import java.lang.reflect.Field;
import java.lang.reflect.Method;
import java.lang.reflect.Modifier;
import java.nio.file.Files;
import java.nio.file.Path;
import java.util.Arrays;
import java.util.HashSet;
import java.util.List;
import java.util.Map;
import java.util.Set;
import java.util.TreeMap;
import java.util.TreeSet;
import java.util.regex.Matcher;
import java.util.regex.Pattern;
import java.util.stream.Collectors;

/** The public face, and what of LANGUAGE.md can be read off the compiled class and its source. */
public final class LanguageTest {
    private static final Path SOURCE = Path.of("src/main/java/WireOfLand.java");
    private static final List<String> FACE = List.of(
        "open int int int", "wire int int int boolean", "storm int int int", "let int int int",
        "message int int int int", "minutes int", "at int int", "next int", "first int int",
        "soonest int int int int int", "beside int int", "write long int", "erase", "fault", "force", "lag int",
        "knows int int", "orders int int", "told int int int", "back int", "word int long int", "far int long int",
        "likely long int int", "row int", "tape int int int", "clerk int int int", "lead int", "blamed",
        "load int int int", "set int int", "fewest int", "waits int int int", "door int int int", "clear",
        "round int", "count int");
    private static final List<String> CONSTANTS = List.of("NONE -1", "UNKNOWN -2", "OUTSIDE -3", "NOT -4", "FULL -5");
    private static final Check check = new Check("LanguageTest");

    public static void main(String[] args) throws IOException, IllegalAccessException {
        face();
        constants();
        constructor();
        nestedClasses();
        source(stripped(Files.readString(SOURCE)));
        check.end();
    }

    private static void face() {
        Set<String> found = new TreeSet<>();
        Set<String> hidden = new HashSet<>();
        for (Method m : WireOfLand.class.getDeclaredMethods()) {
            String signature = m.getName();
            for (Class<?> type : m.getParameterTypes()) {
                signature += " " + type.getName();
            }
            if (Modifier.isPrivate(m.getModifiers())) {
                hidden.add(m.getName());
                continue;
            }
            found.add(signature);
            check.holds(signature + " is public, not static, answers an int",
                m.getModifiers() == Modifier.PUBLIC && m.getReturnType() == int.class);
        }
        check.holds("the methods are " + found, found.equals(new TreeSet<>(FACE)));
        for (String signature : FACE) {
            check.holds("a private method bears a public name", !hidden.contains(signature.split(" ")[0]));
        }
    }

    private static void constants() throws IllegalAccessException {
        Set<String> found = new TreeSet<>();
        for (Field f : WireOfLand.class.getDeclaredFields()) {
            int modifiers = f.getModifiers();
            if (Modifier.isStatic(modifiers)) {
                check.holds(f.getName() + " is final", Modifier.isFinal(modifiers));
            }
            if (!Modifier.isPrivate(modifiers)) {
                found.add(f.getName() + " " + f.getInt(null));
            }
        }
        check.holds("the constants are " + found, found.equals(new TreeSet<>(CONSTANTS)));
    }

    private static void constructor() {
        Constructor<?>[] all = WireOfLand.class.getDeclaredConstructors();
        check.holds("one public constructor without arguments",
            all.length == 1 && all[0].getParameterCount() == 0 && Modifier.isPublic(all[0].getModifiers()));
        check.holds("public and final", WireOfLand.class.getModifiers() == (Modifier.PUBLIC | Modifier.FINAL));
    }

    private static void nestedClasses() {
        Class<?>[] nested = WireOfLand.class.getDeclaredClasses();
        check.holds("at most some twelve classes", nested.length + 1 <= 12);
        for (Class<?> c : nested) {
            check.holds(c + " is private and static",
                Modifier.isPrivate(c.getModifiers()) && Modifier.isStatic(c.getModifiers()));
            check.holds(c + " has at most some twenty fields", c.getDeclaredFields().length <= 20);
            for (Method m : c.getDeclaredMethods()) {
                check.holds(m + " takes at most seven", m.getParameterCount() <= 7);
                check.holds(m + " bears a public name",
                    FACE.stream().noneMatch(signature -> signature.split(" ")[0].equals(m.getName())));
            }
        }
    }

    /** The source without comments, and with empty texts. */
    private static String stripped(String source) {
        return source.replaceAll("(?s)/\\*.*?\\*/", "").replaceAll("//[^\n]*", "").replaceAll("\"[^\"\n]*\"", "\"\"");
    }

    private static void source(String source) {
        for (String word : List.of("throw", "throws", "try", "catch", "synchronized", "assert", "package", "extends",
                "Object", "Thread", "Random", "getClass", "hashCode", "toString", "protected", "instanceof")) {
            check.holds("no " + word, !Pattern.compile("\\b" + word + "\\b").matcher(source).find());
        }
        for (String sign : List.of("->", "::", "static {", "@", "Exact(", "while (true)", "for (;;)")) {
            check.holds("no " + sign, !source.contains(sign));
        }
        check.holds("only Arrays is taken from the library",
            source.replaceFirst("import java\\.util\\.Arrays;", "").indexOf("import") < 0);
        Matcher calls = Pattern.compile("\\b(System|Arrays|Math|Integer|Long|String)\\.(\\w+)").matcher(source);
        Set<String> allowed = Set.of("arraycopy", "fill", "max", "min", "abs", "bitCount");
        while (calls.find()) {
            check.holds("no " + calls.group(), allowed.contains(calls.group(2)));
        }
        methodLengths(source);
        callDepth(source);
    }

    private static void methodLengths(String source) {
        int begun = -1;
        String[] lines = source.split("\n", -1);
        for (int i = 0; i < lines.length; i++) {
            if (lines[i].matches("(    |        )\\S.*\\) \\{") && !lines[i].contains("class ")) {
                begun = i;
            }
            if (begun >= 0 && lines[i].equals(lines[begun].replaceAll("\\S.*", "") + "}")) {
                check.holds(lines[begun].trim() + " is longer than sixty lines", i - begun < 60);
                begun = -1;
            }
            check.holds("line " + i + " is too long", lines[i].length() <= 120);
        }
        check.holds("all methods end", begun < 0 && Arrays.asList(lines).contains("}"));
    }

    /** Calls that are no recursion go at most eight deep, the public one with them. */
    private static void callDepth(String source) {
        Map<String, String> bodies = bodies(source);
        check.holds("methods are found", bodies.containsKey("WireOfLand.beside") && bodies.containsKey("Boys.goOn"));
        check.holds("the deepest chain of passesNumber is" + deepest("Text.passesNumber", bodies, ""),
            deepest("Text.passesNumber", bodies, "").equals(" Text.passesNumber Text.goOn Text.isLetter"));
        for (String method : bodies.keySet()) {
            String chain = deepest(method, bodies, "");
            check.holds("more than eight deep:" + chain, chain.split(" ").length - 1 <= 8);
        }
    }

    /** The lines of each method and constructor, by class and name. */
    private static Map<String, String> bodies(String source) {
        Map<String, String> bodies = new TreeMap<>();
        Pattern head = Pattern.compile("(    |        )\\S[^=]*?(\\w+)\\([^)]*\\) \\{");
        String inside = "WireOfLand";
        String open = null;
        for (String line : source.split("\n")) {
            Matcher nested = Pattern.compile("    private static final class (\\w+) \\{").matcher(line);
            Matcher method = head.matcher(line);
            if (nested.matches()) {
                inside = nested.group(1);
            } else if (method.matches()) {
                open = inside + "." + method.group(2);
                bodies.put(open, "");
            } else if (open != null) {
                bodies.put(open, bodies.get(open) + line + "\n");
            }
        }
        return bodies;
    }

    /** The longest chain of calls that begins with a method; what stands open already is not gone into again. */
    private static String deepest(String method, Map<String, String> bodies, String ahead) {
        String longest = "";
        Matcher calls = Pattern.compile("(?:(\\w+)\\.|new )?\\b(\\w+)\\(").matcher(bodies.get(method));
        String here = ahead + " " + method;
        while (calls.find()) {
            for (String callee : callees(method, calls.group(1), calls.group(2), bodies)) {
                String chain = (here + " ").contains(" " + callee + " ") ? "" : deepest(callee, bodies, here);
                longest = chain.split(" ").length > longest.split(" ").length ? chain : longest;
            }
        }
        return " " + method + longest;
    }

    /** What a name can mean: without an object the own class or the outer one, else any class that has it. */
    private static List<String> callees(String method, String object, String name, Map<String, String> bodies) {
        String own = method.split("\\.")[0] + "." + name;
        if (object == null && bodies.containsKey(own)) {
            return List.of(own);
        }
        return bodies.keySet().stream().filter(other -> other.endsWith("." + name)).collect(Collectors.toList());
    }
}
