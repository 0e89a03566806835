import java.io.IOException;
import java.lang.reflect.Method;
import java.lang.reflect.Modifier;
import java.nio.file.Files;
import java.nio.file.Path;
import java.util.Map;
import java.util.Set;
import java.util.TreeSet;
import java.util.regex.Matcher;
import java.util.regex.Pattern;
import java.util.stream.Collectors;
import java.util.stream.Stream;

/** README.md and SENTENCES.md say what is so: examples, constants, calls and tests. */
public final class ReadmeTest {
    private static final Check check = new Check();
    private static final Path TESTS = Path.of("src/test/java");

    public static void main(String[] args) throws Exception {
        String readme = Files.readString(Path.of("README.md"));
        String sentences = Files.readString(Path.of("SENTENCES.md"));
        example(readme);
        constants(readme);
        calls(readme);
        testsAreNamed(readme);
        namedTestsAreThere(sentences);
        promises(sentences);
        check.end();
    }

    private static Method method(String name) {
        for (Method m : LetterDebts.class.getDeclaredMethods()) {
            if (m.getName().equals(name) && Modifier.isPublic(m.getModifiers())) {
                return m;
            }
        }
        throw new IllegalStateException("no call " + name);
    }

    /** Each line of the example answers the number behind it. */
    private static void example(String readme) throws Exception {
        Matcher typed = Pattern.compile("\ntyped\\(x, \"([^\"]*)\"\\);").matcher(readme);
        check.holds("a text is typed", typed.find());
        LetterDebts x = new LetterDebts();
        Check.typed(x, typed.group(1));
        Matcher line = Pattern.compile("\nx\\.(\\w+)\\(([^)]*)\\); *// (-?\\d+)").matcher(readme);
        int lines = 0;
        while (line.find()) {
            lines++;
            check.due(line.group().trim(), answer(x, line.group(1), line.group(2)), Long.parseLong(line.group(3)));
        }
        check.due("lines of the example", lines, readme.lines().filter(l -> l.startsWith("x.")).count());
        check.holds("some lines", lines >= 10);
    }

    private static long answer(LetterDebts x, String name, String numbers) throws Exception {
        String[] parts = numbers.isEmpty() ? new String[0] : numbers.split(", ");
        Object[] values = new Object[parts.length];
        for (int i = 0; i < parts.length; i++) {
            values[i] = Integer.valueOf(parts[i]);
        }
        return ((Number) method(name).invoke(x, values)).longValue();
    }

    private static void constants(String readme) {
        Map<String, Integer> all = Map.of("BAD", LetterDebts.BAD, "STATE", LetterDebts.STATE, "FULL", LetterDebts.FULL);
        all.forEach((name, v) -> check.holds(name, readme.contains("| `" + name + "` | " + v + " |")));
        check.holds("NONE", readme.contains("`NONE` (" + LetterDebts.NONE + ")"));
    }

    /** The table has each call once, with as many numbers as it takes. */
    private static void calls(String readme) {
        Matcher row = Pattern.compile("\n\\| `(\\w+)\\(([^)]*)\\)` \\|").matcher(readme);
        Set<String> named = new TreeSet<>();
        while (row.find()) {
            check.holds(row.group(1) + " stands there once", named.add(row.group(1)));
            int numbers = row.group(2).isEmpty() ? 0 : row.group(2).split(", ").length;
            check.due("numbers of " + row.group(1), numbers, method(row.group(1)).getParameterCount());
        }
        Set<String> face = Stream.of(LetterDebts.class.getDeclaredMethods())
            .filter(m -> Modifier.isPublic(m.getModifiers())).map(Method::getName).collect(Collectors.toCollection(TreeSet::new));
        check.holds("all calls: " + named, named.equals(face));
    }

    private static void testsAreNamed(String readme) throws IOException {
        try (Stream<Path> files = Files.list(TESTS)) {
            for (Path file : files.toList()) {
                String name = file.getFileName().toString().replace(".java", "");
                if (name.endsWith("Test")) {
                    check.holds(name + " stands in README.md", Pattern.compile("\\b" + name + "\\b").matcher(readme).find());
                }
            }
        }
        Matcher named = Pattern.compile("\\b[A-Z]\\w*Test\\b").matcher(readme);
        while (named.find()) {
            check.holds(named.group() + " is there", Files.exists(TESTS.resolve(named.group() + ".java")));
        }
    }

    /** A test that is named is called by its class, not just there. */
    private static void namedTestsAreThere(String sentences) throws IOException {
        Matcher named = Pattern.compile("\\b([A-Z]\\w*Test)\\.(\\w+)").matcher(sentences);
        int seen = 0;
        while (named.find()) {
            seen++;
            Path file = TESTS.resolve(named.group(1) + ".java");
            String source = Files.exists(file) ? Files.readString(file) : "";
            boolean made = Pattern.compile(" void " + named.group(2) + "\\(").matcher(source).find();
            boolean called = Pattern.compile("(?<! void )\\b" + named.group(2) + "\\([^{\n]*\\);").matcher(source).find();
            check.holds(named.group() + " is there and is called", made && called);
        }
        check.holds("tests were named", seen > 150);
    }

    private static void promises(String sentences) {
        for (int i = 1; i <= 29; i++) {
            check.holds("promise " + i, sentences.contains("\n| " + i + " | "));
        }
    }
}
