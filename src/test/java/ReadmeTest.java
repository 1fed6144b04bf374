import java.io.IOException;
import java.lang.reflect.InvocationTargetException;
import java.lang.reflect.Method;
import java.lang.reflect.Modifier;
import java.nio.file.Files;
import java.nio.file.Path;
import java.util.Arrays;
import java.util.List;
import java.util.regex.Matcher;
import java.util.regex.Pattern;
import java.util.stream.Collectors;
import java.util.stream.Stream;

/**
 * README.md shows what is so: each row of its examples is done as it stands there and answers what is
 * written behind it; no call and no test is left out. Run in the project's root.
 */
public final class ReadmeTest {
    private static final Pattern BLOCK = Pattern.compile("(?s)```java\n(.*?)```");
    private static final Pattern PUT = Pattern.compile("put\\(x, \"([^\"]*)\"\\);");
    private static final Pattern CALL = Pattern.compile("x\\.(\\w+)\\(([^)]*)\\); +// (-?\\d+|throws \\w+)(: .*)?");
    private static final String NEW = "LeaningMarket x = new LeaningMarket();";

    private static LeaningMarket x = new LeaningMarket();

    public static void main(String[] args) throws IOException {
        String page = Files.readString(Path.of("README.md"));
        Matcher block = BLOCK.matcher(page);
        int examples = 0;
        while (block.find()) {
            if (block.group(1).startsWith("static void put")) {
                helperStandsInCheck(block.group(1));
            } else {
                examples++;
                block.group(1).lines().forEach(ReadmeTest::row);
            }
        }
        int many = examples;
        Check.due("examples", 1, () -> many >= 4 ? 1 : 0);
        for (Method m : LeaningMarket.class.getDeclaredMethods()) {
            if (Modifier.isPublic(m.getModifiers())) {
                named(page, m.getName());
            }
        }
        for (String test : testNames()) {
            named(page, test.startsWith("Bound") && !test.equals("BoundIndexTest") ? "Bound*Test" : test);
        }
        for (Class<?> inside : LeaningMarket.class.getDeclaredClasses()) {
            named(page, inside.getSimpleName());
        }
        Check.end();
    }

    /** The tests put their texts by the very lines that the page shows. */
    private static void helperStandsInCheck(String helper) throws IOException {
        String indented = helper.lines().map(line -> "    " + line).collect(Collectors.joining("\n"));
        String check = Files.readString(Path.of("src/test/java/Check.java"));
        Check.due("put as in Check.java", 1, () -> check.contains(indented) ? 1 : 0);
    }

    private static void row(String line) {
        Matcher put = PUT.matcher(line);
        Matcher call = CALL.matcher(line);
        if (line.equals(NEW)) {
            x = new LeaningMarket();
        } else if (put.matches()) {
            Check.put(x, put.group(1));
        } else if (call.matches()) {
            Check.due(line, want(call.group(3)), () -> answer(call.group(1), call.group(2)));
        } else {
            Check.due("a row that can be done: " + line, 1, () -> 0);
        }
    }

    private static long want(String written) {
        return written.equals("throws NoSuchElementException") ? Check.NO_SUCH
            : written.equals("throws IllegalArgumentException") ? Check.ILLEGAL
            : written.startsWith("throws") ? Check.ANOTHER
            : Long.parseLong(written);
    }

    private static long answer(String name, String written) {
        Object[] values = written.isEmpty() ? new Object[0]
            : Arrays.stream(written.split(", ")).map(Integer::valueOf).toArray();
        Class<?>[] types = new Class<?>[values.length];
        Arrays.fill(types, int.class);
        try {
            return ((Number) LeaningMarket.class.getMethod(name, types).invoke(x, values)).longValue();
        } catch (InvocationTargetException e) {
            throw (RuntimeException) e.getCause();
        } catch (ReflectiveOperationException e) {
            throw new IllegalStateException("no such call: " + name, e);
        }
    }

    private static void named(String page, String name) {
        Check.due("the page names " + name, 1, () -> page.contains("`" + name + "`") ? 1 : 0);
    }

    private static List<String> testNames() throws IOException {
        try (Stream<Path> files = Files.list(Path.of("src/test/java"))) {
            return files.map(f -> f.getFileName().toString()).filter(f -> f.endsWith("Test.java"))
                .map(f -> f.substring(0, f.length() - ".java".length())).collect(Collectors.toList());
        }
    }
}
