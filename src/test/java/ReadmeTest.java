import java.io.IOException;
import java.lang.reflect.InvocationTargetException;
import java.lang.reflect.Method;
import java.lang.reflect.Modifier;
import java.nio.file.Files;
import java.nio.file.Path;
import java.util.HashMap;
import java.util.List;
import java.util.Map;
import java.util.Set;
import java.util.TreeSet;
import java.util.regex.Matcher;
import java.util.regex.Pattern;
import java.util.stream.Stream;

/**
 * Does every call that README.md shows, on the objects it makes, and holds the answers that it shows against those
 * of the class; and looks whether it shows every call, names every test, and every class inside.
 */
public final class ReadmeTest {
    private static final Pattern MADE = Pattern.compile("NightLevel night = new NightLevel\\(\\);");
    private static final Pattern FED = Pattern.compile("for \\(char c : \"([^\"]*)\"\\.toCharArray\\(\\)\\) night\\.feed\\(c\\);");
    private static final Pattern CALL = Pattern.compile(
        "night\\.([a-zA-Z]+)\\(((?:-?\\d+(?:, -?\\d+)*)?)\\);\\s*// (-?\\d+)(?:, ([A-Z]+))?(?:: .+)?");
    private static final Pattern NAMED = Pattern.compile("\\| `([A-Z]+)` \\| (-?\\d+) \\|.*");
    private static final Map<String, Integer> NAMES = Map.of("NONE", NightLevel.NONE, "BAD", NightLevel.BAD,
        "STATE", NightLevel.STATE, "FULL", NightLevel.FULL, "NULL", Probe.NULL, "PLACE", Probe.PLACE,
        "KIND", Probe.KIND, "SIZE", Probe.SIZE, "STORE", Probe.STORE);

    private static final Map<String, Method> methods = new HashMap<>();
    private static final Set<String> shown = new TreeSet<>();
    private static int answers = 0;
    private static int wrong = 0;

    private static void hold(boolean isSo, String otherwise) {
        if (isSo) return;
        wrong++;
        System.out.println("README.md: " + otherwise);
    }

    private static void holdName(String name, int answer, String line) {
        hold(NAMES.containsKey(name) && NAMES.get(name) == answer, "no such name: " + line);
    }

    private static void holdCall(NightLevel night, Matcher call, String line) throws ReflectiveOperationException {
        String name = call.group(1);
        String[] told = call.group(2).isEmpty() ? new String[0] : call.group(2).split(", ");
        Method method = methods.get(name);
        if (method == null || method.getParameterCount() != told.length) {
            hold(false, "no such call: " + line);
            return;
        }
        Object[] arguments = new Object[told.length];
        for (int i = 0; i < told.length; i++) arguments[i] = Integer.parseInt(told[i]);
        long got = ((Number) method.invoke(night, arguments)).longValue();
        hold(got == Long.parseLong(call.group(3)), "answered is " + got + " to: " + line);
        boolean isRefusal = got >= Probe.STORE && got <= NightLevel.NONE;
        hold(call.group(4) != null == isRefusal, "a refusal, and nothing else, is named: " + line);
        if (call.group(4) != null) holdName(call.group(4), (int) got, line);
        shown.add(name);
        answers++;
    }

    /** One block of code: it makes its own object, and each of its lines is understood. */
    private static void holdBlock(List<String> lines) throws ReflectiveOperationException {
        NightLevel night = null;
        for (String line : lines) {
            Matcher fed = FED.matcher(line);
            Matcher call = CALL.matcher(line);
            if (MADE.matcher(line).matches()) {
                night = new NightLevel();
            } else if (night != null && fed.matches()) {
                for (char c : fed.group(1).toCharArray()) night.feed(c);
                shown.add("feed");
            } else if (night != null && call.matches()) {
                holdCall(night, call, line);
            } else {
                hold(false, "a line that shows no answer: " + line);
            }
        }
    }

    private static void holdBlocks(List<String> lines) throws ReflectiveOperationException {
        for (int i = 0; i < lines.size(); i++) {
            if (!lines.get(i).equals("```java")) continue;
            int end = i + 1;
            while (end < lines.size() && !lines.get(end).equals("```")) end++;
            holdBlock(lines.subList(i + 1, end));
            i = end;
        }
    }

    private static void holdNames(List<String> lines) {
        Set<String> named = new TreeSet<>();
        for (String line : lines) {
            Matcher row = NAMED.matcher(line);
            if (!row.matches()) continue;
            holdName(row.group(1), Integer.parseInt(row.group(2)), line);
            named.add(row.group(1));
        }
        hold(named.equals(NAMES.keySet()), "named are " + named);
    }

    private static void holdAllShown(String text) throws IOException {
        hold(shown.equals(methods.keySet()), "shown are " + shown + ", there are " + new TreeSet<>(methods.keySet()));
        for (Class<?> inside : NightLevel.class.getDeclaredClasses()) {
            hold(text.contains("| `" + inside.getSimpleName() + "` |"), "no row for " + inside.getSimpleName());
        }
        try (Stream<Path> tests = Files.list(Path.of("src/test/java"))) {
            for (Path test : (Iterable<Path>) tests::iterator) {
                String name = test.getFileName().toString().replace(".java", "");
                hold(!name.endsWith("Test") || text.contains("| `" + name + "` |"), "no row for " + name);
            }
        }
        hold(text.contains("\n.ci/run\n"), "how the tests are run is not told");
    }

    public static void main(String[] args) throws IOException, ReflectiveOperationException {
        for (Method m : NightLevel.class.getDeclaredMethods()) {
            if (Modifier.isPublic(m.getModifiers())) methods.put(m.getName(), m);
        }
        Path readme = Path.of("README.md");
        List<String> lines = Files.readAllLines(readme);
        try {
            holdBlocks(lines);
        } catch (InvocationTargetException thrown) {
            hold(false, "a call threw " + thrown.getCause());
        }
        holdNames(lines);
        holdAllShown(Files.readString(readme));
        System.out.println(wrong == 0 ? answers + " answers of README.md: all are as shown" : wrong + " things of README.md are not so");
        if (wrong != 0) System.exit(1);
    }
}
