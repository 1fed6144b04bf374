import java.io.IOException;
import java.lang.reflect.Executable;
import java.lang.reflect.Field;
import java.lang.reflect.Method;
import java.lang.reflect.Modifier;
import java.nio.file.Files;
import java.nio.file.Path;
import java.util.ArrayList;
import java.util.Arrays;
import java.util.List;
import java.util.Map;
import java.util.Set;
import java.util.TreeMap;
import java.util.TreeSet;
import java.util.regex.Matcher;
import java.util.regex.Pattern;

/** The rules of LANGUAGE.md that can be seen from the source's signs and from the classes' shape. Run in the project's root. */
public final class LanguageTest {
    private static final String[] NEVER = {"->", "::", "finally", "synchronized", "assert ", "try ", "catch ", "Exact(",
        "NaN", ".getClass", "hashCode", "toString", "System.out", "System.nano", "System.current", "Random", "Thread",
        "package ", "getMessage", "static {", "volatile", "native ", "var ",
    };

    public static void main(String[] args) throws IOException {
        String source = Files.readString(Path.of("src/main/java/LeaningMarket.java"));
        String code = withoutComments(source);
        for (String sign : NEVER) {
            Check.due("the sign '" + sign + "'", -1, () -> code.indexOf(sign));
        }
        Check.due("signs above 127", 0, () -> source.chars().filter(c -> c > 127).count());
        all(code, "import ([\\w.]+);", List.of("java.util.Arrays", "java.util.NoSuchElementException"));
        all(code, "throw new (\\w+)\\(\"", List.of("IllegalArgumentException", "NoSuchElementException"));
        Check.due("throws all written so", count(code, "throw\\b"), () -> count(code, "throw new \\w+\\(\""));
        all(code, "\\b(?:Math|Integer|Long)\\.(\\w+)", List.of("min", "max", "abs", "bitCount"));
        all(code, "\\bArrays\\.(\\w+)", List.of("fill"));
        all(code, "\\bSystem\\.(\\w+)", List.of("arraycopy"));
        methodsAreShort(source);
        callsAreShallow(code);
        shapes();
        Check.end();
    }

    private static String withoutComments(String source) {
        return source.replaceAll("(?s)/\\*.*?\\*/", " ").replaceAll("//[^\n]*", " ");
    }

    private static long count(String code, String pattern) {
        return Pattern.compile(pattern).matcher(code).results().count();
    }

    private static void all(String code, String pattern, List<String> allowed) {
        Matcher m = Pattern.compile(pattern).matcher(code);
        while (m.find()) {
            String found = m.group(1);
            Check.due(pattern + " has " + found, 1, () -> allowed.contains(found) ? 1 : 0);
        }
    }

    private static void methodsAreShort(String source) {
        Pattern begin = Pattern.compile("^(    |        )\\w.*\\) ?(throws .*)?\\{$");
        String[] lines = source.split("\n");
        for (int i = 0; i < lines.length; i++) {
            Matcher m = begin.matcher(lines[i]);
            if (m.matches()) {
                int end = i;
                while (!lines[end].equals(m.group(1) + "}")) {
                    end++;
                }
                int length = end - i + 1;
                Check.due("lines of " + lines[i].trim(), 1, () -> length <= 60 ? 1 : 0);
            }
        }
    }

    /** Methods of one name are taken as one: that can only make a chain of calls look longer. */
    private static void callsAreShallow(String code) {
        Map<String, Set<String>> calls = new TreeMap<>();
        Pattern method = Pattern.compile("(?ms)^(    |        )[a-z][\\w\\[\\] ]* (\\w+)\\(([^()]*)\\)[\\w\\s,]*\\{$(.*?)^\\1\\}$");
        Matcher m = method.matcher(code);
        while (m.find()) {
            Set<String> called = calls.computeIfAbsent(m.group(2), name -> new TreeSet<>());
            Matcher call = Pattern.compile("\\b(\\w+)\\(").matcher(m.group(4));
            while (call.find()) {
                called.add(call.group(1));
            }
        }
        Check.due("methods are found: " + calls.size(), 1, () -> calls.size() > 100 ? 1 : 0);
        for (Method face : LeaningMarket.class.getDeclaredMethods()) {
            String name = face.getName();
            List<String> deepest = deepest(calls, name, List.of());
            Check.due("calls at most eight deep: " + deepest, 1, () -> deepest.size() <= 8 && calls.containsKey(name) ? 1 : 0);
        }
    }

    /** The longest chain of the class's own methods; one that stands open already is a recursion and ends it. */
    private static List<String> deepest(Map<String, Set<String>> calls, String name, List<String> open) {
        List<String> chain = new ArrayList<>(open);
        chain.add(name);
        List<String> best = chain;
        for (String called : calls.getOrDefault(name, Set.of())) {
            if (calls.containsKey(called) && !chain.contains(called)) {
                List<String> deeper = deepest(calls, called, chain);
                best = deeper.size() > best.size() ? deeper : best;
            }
        }
        return best;
    }

    private static void shapes() {
        List<Class<?>> classes = new ArrayList<>(Arrays.asList(LeaningMarket.class.getDeclaredClasses()));
        classes.add(LeaningMarket.class);
        Check.due("some twelve classes", 1, () -> classes.size() <= 12 ? 1 : 0);
        for (Class<?> one : classes) {
            int fields = 0;
            for (Field f : one.getDeclaredFields()) {
                boolean isStatic = Modifier.isStatic(f.getModifiers());
                fields += isStatic ? 0 : 1;
                Check.due(f + " is final, if static", 1,
                    () -> !isStatic || Modifier.isFinal(f.getModifiers()) ? 1 : 0);
            }
            int many = fields;
            Check.due("some twenty fields in " + one, 1, () -> many <= 20 ? 1 : 0);
            List<Executable> calls = new ArrayList<>(Arrays.asList(one.getDeclaredMethods()));
            calls.addAll(Arrays.asList(one.getDeclaredConstructors()));
            for (Executable call : calls) {
                Check.due("seven parameters of " + call, 1, () -> call.getParameterCount() <= 7 ? 1 : 0);
            }
        }
    }
}
