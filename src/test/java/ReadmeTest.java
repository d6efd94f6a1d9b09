import java.io.IOException;
import java.lang.reflect.InvocationTargetException;
import java.lang.reflect.Method;
import java.lang.reflect.Modifier;
import java.nio.file.Files;
import java.nio.file.Path;
import java.util.List;
import java.util.Set;
import java.util.TreeSet;
import java.util.regex.Matcher;
import java.util.regex.Pattern;
import java.util.stream.Collectors;
import java.util.stream.Stream;

/** README.md holds: its calls answer what stands behind them, and it names all calls and tests; runs in its folder. */
public final class ReadmeTest {
    private static final Pattern TEXT = Pattern.compile("String text = \"(.*)\"; +// .*");
    private static final Pattern CALL = Pattern.compile("x\\.(\\w+)\\((.*)\\); +// (-?\\d+), .*");
    /** The lines of the Java block that make the object and write the text. */
    private static final Set<String> FRAME = Set.of("SpinWheels x = new SpinWheels();",
        "for (int i = 0; i < text.length(); i++) {", "    x.write(text.charAt(i));", "}");

    public static void main(String[] args) throws IOException {
        String page = Files.readString(Path.of("README.md"));
        calls(page);
        names(page);
        tests(page);
        codes(page);
        Due.end("ReadmeTest");
    }

    private static void calls(String page) {
        Matcher block = Pattern.compile("(?s)```java\n(.*?)\n```").matcher(page);
        Due.isTrue("README.md has no Java block", block.find());
        SpinWheels x = new SpinWheels();
        int made = 0;
        for (String line : block.group(1).split("\n")) {
            Matcher text = TEXT.matcher(line);
            Matcher call = CALL.matcher(line);
            if (text.matches()) {
                Due.type(x, text.group(1));
            } else if (call.matches()) {
                Due.same("README.md: " + line, answer(x, call.group(1), call.group(2)), Long.parseLong(call.group(3)));
                made++;
            } else {
                Due.isTrue("README.md has a line that is not tested: " + line, FRAME.contains(line));
            }
        }
        Due.isTrue("README.md makes no calls", made > 0);
    }

    /** The answer of a call of which the arguments are written as in Java. */
    private static long answer(SpinWheels x, String name, String written) {
        String[] words = written.isEmpty() ? new String[0] : written.split(", ");
        for (Method m : SpinWheels.class.getMethods()) {
            if (m.getName().equals(name) && m.getParameterCount() == words.length) {
                Object[] values = new Object[words.length];
                for (int i = 0; i < words.length; i++) {
                    values[i] = value(m.getParameterTypes()[i], words[i]);
                }
                try {
                    return ((Number) m.invoke(x, values)).longValue();
                } catch (IllegalAccessException | InvocationTargetException e) {
                    throw new IllegalStateException(e);
                }
            }
        }
        throw new IllegalStateException("README.md calls " + name + "(" + written + "), which the face has not");
    }

    private static Object value(Class<?> type, String word) {
        if (type == boolean.class) {
            return Boolean.valueOf(word);
        }
        return type == long.class ? (Object) Long.valueOf(word.replace("L", "")) : Integer.valueOf(word);
    }

    /** The table names each call of the face once, and nothing else. */
    private static void names(String page) {
        Set<String> face = new TreeSet<>();
        for (Method m : SpinWheels.class.getDeclaredMethods()) {
            if (Modifier.isPublic(m.getModifiers())) {
                face.add(m.getName());
            }
        }
        List<String> named = page.lines().filter(l -> l.startsWith("| `"))
            .flatMap(l -> Stream.of(l.split("\\|")[1].trim().split(", "))).map(n -> n.replace("`", ""))
            .collect(Collectors.toList());
        Due.isTrue("README.md names a call twice: " + named, new TreeSet<>(named).size() == named.size());
        Due.isTrue("README.md names the calls " + named, new TreeSet<>(named).equals(face));
    }

    private static void tests(String page) throws IOException {
        Set<String> there = new TreeSet<>();
        try (Stream<Path> files = Files.list(Path.of("src/test/java"))) {
            files.map(f -> f.getFileName().toString().replace(".java", "")).filter(n -> n.endsWith("Test"))
                .forEach(there::add);
        }
        Set<String> named = new TreeSet<>();
        Matcher m = Pattern.compile("\\b\\w+Test\\b").matcher(page);
        while (m.find()) {
            named.add(m.group());
        }
        Due.isTrue("README.md names the tests " + named + ", there are " + there, named.equals(there));
    }

    private static void codes(String page) {
        int[] codes = {SpinWheels.UNKNOWN, SpinWheels.OUTSIDE, SpinWheels.STATE, SpinWheels.FULL, SpinWheels.NONE};
        String[] names = {"UNKNOWN", "OUTSIDE", "STATE", "FULL", "NONE"};
        for (int i = 0; i < codes.length; i++) {
            String due = "`" + names[i] + "` (" + codes[i] + ")";
            Due.isTrue("README.md has no " + due, page.contains(due));
        }
    }
}
