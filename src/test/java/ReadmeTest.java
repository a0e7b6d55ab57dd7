import java.lang.reflect.Method;
import java.nio.file.Files;
import java.nio.file.Path;
import java.util.HashMap;
import java.util.List;
import java.util.Map;
import java.util.regex.Matcher;
import java.util.regex.Pattern;
import java.util.stream.Stream;

/** What README.md says is so: its example's answers, and that it tells of every call and every test. */
public final class ReadmeTest {
    /** A call of the example: perhaps a variable, the call's name, its arguments, the answer. */
    private static final Pattern CALL = Pattern.compile("(?:int (\\w+) = )?x\\.(\\w+)\\((.*)\\); +// (\\S+)");

    private static int failures = 0;

    private static void fault(boolean is, String what) {
        if (is) {
            failures++;
            System.out.println("README.md: " + what);
        }
    }

    private static long constant(String name) throws ReflectiveOperationException {
        return OtherName.class.getField(name).getInt(null);
    }

    /** A sum of numbers, constants of the class and variables of the example. */
    private static long value(String text, Map<String, Long> variables) throws ReflectiveOperationException {
        long sum = 0;
        for (String part : text.split(" \\+ ")) {
            if (variables.containsKey(part)) sum += variables.get(part);
            else if (part.startsWith("OtherName.")) sum += constant(part.substring("OtherName.".length()));
            else sum += Long.decode(part.endsWith("L") ? part.substring(0, part.length() - 1) : part);
        }
        return sum;
    }

    private static long answer(OtherName x, String name, String arguments, Map<String, Long> variables)
            throws ReflectiveOperationException {
        String[] texts = arguments.isEmpty() ? new String[0] : arguments.split(", ");
        for (Method m : OtherName.class.getDeclaredMethods()) {
            if (!m.getName().equals(name) || m.getParameterCount() != texts.length) continue;
            Object[] values = new Object[texts.length];
            for (int i = 0; i < texts.length; i++) {
                long v = value(texts[i], variables);
                if (m.getParameterTypes()[i] == int.class) values[i] = (int) v;
                else values[i] = v;
            }
            return ((Number) m.invoke(x, values)).longValue();
        }
        throw new NoSuchMethodException(name);
    }

    /** Answers how many calls the example has. */
    private static int example(String readme) throws ReflectiveOperationException {
        int start = readme.indexOf("```java\n");
        int end = readme.indexOf("```\n", start + 1);
        fault(start < 0 || end < 0, "there is no example");
        if (start < 0 || end < 0) return 0;
        OtherName x = new OtherName();
        Map<String, Long> variables = new HashMap<>();
        int calls = 0;
        for (String line : readme.substring(start + "```java\n".length(), end).split("\n")) {
            if (line.isEmpty() || line.startsWith("//") || line.equals("OtherName x = new OtherName();")) continue;
            Matcher m = CALL.matcher(line);
            if (!m.matches()) {
                fault(true, "no call with an answer: " + line);
                continue;
            }
            long got = answer(x, m.group(2), m.group(3), variables);
            long want = m.group(4).matches("[A-Z]+") ? constant(m.group(4)) : Long.parseLong(m.group(4));
            fault(got != want, line.strip() + " answered " + got);
            if (m.group(1) != null) variables.put(m.group(1), got);
            calls++;
        }
        return calls;
    }

    private static void tellsOfAll(String readme) throws java.io.IOException {
        for (Method m : OtherName.class.getMethods()) {
            boolean ofFace = m.getDeclaringClass() == OtherName.class;
            fault(ofFace && !readme.contains("`" + m.getName() + "`"), "tells nothing of " + m.getName());
        }
        try (Stream<Path> tests = Files.list(Path.of("src/test/java"))) {
            for (Path test : tests.toList()) {
                String name = test.getFileName().toString().replace(".java", "");
                fault(!readme.contains("`" + name + "`"), "tells nothing of the test " + name);
            }
        }
        for (String file : List.of("src/main/java/OtherName.java", "src/test/help/Due.java", ".ci/run", "../shared/DOC.md",
                "../shared/LANGUAGE.md")) {
            fault(!readme.contains("`" + file + "`") || !Files.exists(Path.of(file)), file + " is not told, or is not there");
        }
    }

    public static void main(String[] args) throws Exception {
        String readme = Files.readString(Path.of("README.md"));
        int calls = example(readme);
        fault(calls < 40, "the example has only " + calls + " calls");
        tellsOfAll(readme);
        System.out.println(failures == 0 ? "README.md says what is so, of " + calls + " calls" : failures + " faults of README.md");
        if (failures != 0) System.exit(1);
    }
}
