import java.io.IOException;
import java.lang.reflect.Method;
import java.lang.reflect.Modifier;
import java.nio.charset.StandardCharsets;
import java.nio.file.DirectoryStream;
import java.nio.file.Files;
import java.nio.file.Path;
import java.util.List;
import java.util.Set;
import java.util.TreeSet;
import java.util.regex.Matcher;
import java.util.regex.Pattern;

/** What README.md shows is done here: its calls answer as it says, its texts load, its tables leave nothing out. */
public final class ReadmeTest {
    private static final Checks CHECKS = new Checks();
    private static final Pattern CALL = Pattern.compile("x\\.(\\w+)\\(([^)]*)\\); *// (-?\\d+)(:.*)?");
    private static final Pattern ROW = Pattern.compile("\\| (\\w+Test) \\|.*");
    private static final int CALLS_SHOWN = 20;

    public static void main(String[] args) throws IOException, ReflectiveOperationException {
        List<String> lines = Files.readAllLines(Path.of("README.md"), StandardCharsets.UTF_8);
        examples(lines);
        methods(lines);
        tests(lines);
        everyTestIsRun();
        CHECKS.finish();
    }

    /** One object goes through all the examples, as a reader would. */
    private static void examples(List<String> lines) throws ReflectiveOperationException {
        SumColouring x = new SumColouring();
        boolean inside = false;
        int calls = 0;
        int texts = 0;
        for (String line : lines) {
            inside = line.startsWith("```") != inside;
            Matcher m = CALL.matcher(line);
            if (inside && m.matches()) {
                calls++;
                CHECKS.due("README: " + line, call(x, m.group(1), m.group(2)), Long.parseLong(m.group(3)));
            } else if (inside && line.startsWith("numbers ")) {
                texts++;
                CHECKS.holds("README: that load takes \"" + line + "\"", Checks.load(new SumColouring(), line) >= 0);
            } else {
                CHECKS.holds("README: that a call says its answer: " + line, !inside || !line.startsWith("x."));
            }
        }
        CHECKS.due("README: calls shown", calls, CALLS_SHOWN);
        CHECKS.due("README: setup texts shown", texts, 1);
    }

    private static long call(SumColouring x, String name, String arguments) throws ReflectiveOperationException {
        String[] words = arguments.isEmpty() ? new String[0] : arguments.split(", *");
        Object[] values = new Object[words.length];
        Class<?>[] types = new Class<?>[words.length];
        for (int i = 0; i < words.length; i++) {
            values[i] = (int) (long) Long.decode(words[i]);
            types[i] = int.class;
        }
        return ((Number) SumColouring.class.getMethod(name, types).invoke(x, values)).longValue();
    }

    private static void methods(List<String> lines) {
        StringBuilder rows = new StringBuilder();
        for (String line : lines) {
            rows.append(line.startsWith("| ") ? line : "");
        }
        for (Method m : SumColouring.class.getDeclaredMethods()) {
            if (Modifier.isPublic(m.getModifiers())) {
                CHECKS.holds("README: a row that names " + m.getName(), rows.indexOf("`" + m.getName() + "`") >= 0);
            }
        }
    }

    private static void tests(List<String> lines) throws IOException {
        Set<String> named = new TreeSet<>();
        for (String line : lines) {
            Matcher m = ROW.matcher(line);
            if (m.matches()) {
                named.add(m.group(1));
            }
        }
        Set<String> present = new TreeSet<>();
        try (DirectoryStream<Path> files = Files.newDirectoryStream(Path.of("src/test/java"), "*Test.java")) {
            for (Path file : files) {
                present.add(file.getFileName().toString().replace(".java", ""));
            }
        }
        CHECKS.due("README: the tests of its table", named.toString(), present.toString());
    }

    /** .ci/run runs the files whose names end with Test.java: a test with another name would be left out. */
    private static void everyTestIsRun() throws IOException {
        try (DirectoryStream<Path> files = Files.newDirectoryStream(Path.of("src/test/java"))) {
            for (Path file : files) {
                String name = file.getFileName().toString();
                CHECKS.holds(name + " is run by .ci/run", name.equals("support") || name.endsWith("Test.java"));
            }
        }
        try (DirectoryStream<Path> files = Files.newDirectoryStream(Path.of("src/test/java/support"))) {
            for (Path file : files) {
                String text = Files.readString(file, StandardCharsets.UTF_8);
                CHECKS.holds(file + " is a helper and no test", !text.contains("void main("));
            }
        }
    }
}
