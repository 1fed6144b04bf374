import java.io.IOException;
import java.lang.reflect.Constructor;
import java.lang.reflect.Field;
import java.lang.reflect.Method;
import java.lang.reflect.Modifier;
import java.nio.file.Files;
import java.nio.file.Path;
import java.util.Arrays;
import java.util.TreeSet;
import java.util.regex.Matcher;
import java.util.regex.Pattern;
import java.util.stream.Collectors;

/** The public face: just that of the document, as it is written there; and nothing of it is hidden behind a private name. */
public final class FaceTest {
    private static final String[] FACE = {
        "int feed int int int int int", "int market int", "int law int", "int work int", "int book int",
        "int fault", "int undo", "int told int", "int thing int int", "int cry int int",
        "int stands int int int int", "int would int int int int int int int", "int ahead int int",
        "long worth int int int", "long fattest int", "int fat", "int mend", "int match int int",
        "int fewest int", "int level int int", "int fits int", "int look int", "int falsely int",
        "int sellers int int int", "long even int int int", "int share int int int", "int heaviest int",
        "int above int", "int alike int", "int against int int", "int fair int int int int",
        "int span int int int int int int", "int image", "int restore", "int status int", "int count int",
    };

    public static void main(String[] args) throws Exception {
        TreeSet<String> methods = new TreeSet<>();
        TreeSet<String> openNames = new TreeSet<>();
        TreeSet<String> hiddenNames = new TreeSet<>();
        for (Method m : LeaningMarket.class.getDeclaredMethods()) {
            if (Modifier.isPrivate(m.getModifiers())) {
                hiddenNames.add(m.getName());
            } else {
                openNames.add(m.getName());
                methods.add(signature(m));
            }
        }
        for (Class<?> inside : LeaningMarket.class.getDeclaredClasses()) {
            Check.due(inside + " is static", 1, () -> Modifier.isStatic(inside.getModifiers()) ? 1 : 0);
            Check.due(inside + " is not public", 0, () -> Modifier.isPublic(inside.getModifiers()) ? 1 : 0);
            for (Method m : inside.getDeclaredMethods()) {
                hiddenNames.add(m.getName());
            }
        }
        same("methods", new TreeSet<>(Arrays.asList(FACE)), methods);
        hiddenNames.retainAll(openNames);
        same("private names of public methods", new TreeSet<>(), hiddenNames);
        Constructor<?>[] makers = LeaningMarket.class.getDeclaredConstructors();
        Check.due("one constructor", 1, () -> makers.length);
        Check.due("without parameters", 0, () -> makers[0].getParameterCount());
        Check.due("which is public", 1, () -> Modifier.isPublic(makers[0].getModifiers()) ? 1 : 0);
        Check.due("the class is final", 1, () -> Modifier.isFinal(LeaningMarket.class.getModifiers()) ? 1 : 0);
        for (Field f : LeaningMarket.class.getDeclaredFields()) {
            boolean open = !Modifier.isPrivate(f.getModifiers());
            Check.due("field " + f.getName(), f.getName().equals("NONE") ? 1 : 0, () -> open ? 1 : 0);
        }
        Check.due("NONE", -1, () -> LeaningMarket.NONE);
        asWritten();
        Check.end();
    }

    /** Every line of the document's face stands in the source, with its throws, and nothing else there is public. */
    private static void asWritten() throws IOException {
        String document = Check.document();
        String face = document.substring(document.indexOf("public final class LeaningMarket {"),
            document.indexOf("## Terms"));
        String source = Files.readString(Path.of("src/main/java/LeaningMarket.java")).replaceAll("\\s+", " ");
        Matcher line = Pattern.compile("public [^;{]*[;{]").matcher(face);
        int lines = 0;
        while (line.find()) {
            lines++;
            String written = line.group();
            String sought = written.contains(")") ? written.replace(";", " {") : written;
            int at = source.indexOf(sought);
            Check.due("stands in the source: " + sought, 1, () -> at >= 0 ? 1 : 0);
            Check.due("stands there once: " + sought, -1, () -> source.indexOf(sought, at + 1));
        }
        int many = lines;
        Check.due("the class, NONE, the constructor and the calls", FACE.length + 3, () -> many);
        Check.due("all that is public", many, () -> Pattern.compile("\\b(public|protected)\\b(?! methods)")
            .matcher(source).results().count());
    }

    private static String signature(Method m) {
        String parameters = Arrays.stream(m.getParameterTypes()).map(t -> " " + t.getName())
            .collect(Collectors.joining());
        return m.getReturnType().getName() + " " + m.getName() + parameters;
    }

    private static void same(String what, TreeSet<String> want, TreeSet<String> got) {
        Check.due(what + ": due " + want + ", there " + got, 1, () -> want.equals(got) ? 1 : 0);
    }
}
