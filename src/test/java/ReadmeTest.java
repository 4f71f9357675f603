import java.lang.reflect.Method;
import java.lang.reflect.Modifier;
import java.nio.file.Files;
import java.nio.file.Path;
import java.util.regex.Matcher;
import java.util.regex.Pattern;
import java.util.stream.Stream;

/** README.md tells every call and every test, and its example answers as it says. */
public final class ReadmeTest {
    private static final Checks c = new Checks();

    public static void main(String[] args) throws Exception {
        Path root = Path.of(args[0]).getParent().getParent().getParent().getParent();
        String page = Files.readString(root.resolve("README.md"));
        calls(page);
        example(page);
        tests(page, root.resolve("src/test/java"));
        c.finish();
    }

    private static void calls(String page) {
        c.part("README's calls");
        for (Method m : SuretyRoll.class.getDeclaredMethods()) {
            if (Modifier.isPublic(m.getModifiers())) {
                Matcher row = Pattern.compile("(?m)^\\| `" + m.getName() + "\\(([^)]*)\\)` \\|").matcher(page);
                c.due("a row for " + m.getName(), row.find() ? 1 : 0, 1);
                String named = row.reset().find() ? row.group(1).trim() : "";
                int many = named.isEmpty() ? 0 : named.split(",").length;
                c.due("what " + m.getName() + " takes", many, m.getParameterCount());
            }
        }
    }

    /** Each call of the example is made, and compared with the number that its comment begins with. */
    private static void example(String page) throws Exception {
        c.part("README's example");
        Matcher text = Pattern.compile("String text = \"([^\"]*)\"").matcher(page);
        if (!text.find()) {
            c.fail("no text there");
            return;
        }
        SuretyRoll roll = new SuretyRoll();
        Checks.type(roll, text.group(1));
        Matcher call = Pattern.compile("(?m)^roll\\.(\\w+)\\(([^)]*)\\); +// (-?\\d+) ").matcher(page);
        int made = 0;
        while (call.find()) {
            c.due(call.group(1) + "(" + call.group(2) + ")", answerOf(roll, call.group(1), call.group(2)), Long.parseLong(call.group(3)));
            made++;
        }
        c.due("calls of the example", made, 9);
    }

    private static long answerOf(SuretyRoll roll, String name, String numbers) throws Exception {
        String[] given = numbers.isEmpty() ? new String[0] : numbers.split(", ");
        Object[] values = new Object[given.length];
        Class<?>[] types = new Class<?>[given.length];
        for (int i = 0; i < given.length; i++) {
            values[i] = Integer.valueOf(given[i]);
            types[i] = int.class;
        }
        return ((Number) SuretyRoll.class.getMethod(name, types).invoke(roll, values)).longValue();
    }

    private static void tests(String page, Path folder) throws Exception {
        c.part("README's tests");
        try (Stream<Path> files = Files.list(folder)) {
            for (Path file : files.sorted().toList()) {
                String name = file.getFileName().toString().replace(".java", "");
                if (name.endsWith("Test")) {
                    c.due("a row for " + name, page.contains("\n| " + name + " |") ? 1 : 0, 1);
                }
            }
        }
    }
}
