import java.lang.reflect.Constructor;
import java.lang.reflect.Field;
import java.lang.reflect.Method;
import java.lang.reflect.Modifier;
import java.util.Arrays;
import java.util.TreeSet;
import java.util.stream.Collectors;

/** The public face: just that of the document; and nothing of it is hidden behind a private name. */
public final class FaceTest {
    private static final String[] FACE = {
        "int feed int int int int int", "int market int", "int law int", "int work int", "int book int",
        "int fault", "int undo", "int told int", "int thing int int", "int cry int int",
        "int stands int int int int", "int would int int int int int int int", "int ahead int int",
        "long worth int int int", "long fattest int", "int fat", "int mend", "int match int int",
        "int fewest int", "int level int int", "int fits int", "int look int", "int falsely int",
        "int sellers int int int", "long even int int int", "int share int int int", "int heaviest int",
        "int above int", "int alike int", "int against int int", "int fair int int int int",
        "int span int int int int int int", "int image", "int restore", "int status int", "int count int",
    };

    public static void main(String[] args) throws Exception {
        TreeSet<String> methods = new TreeSet<>();
        TreeSet<String> openNames = new TreeSet<>();
        TreeSet<String> hiddenNames = new TreeSet<>();
        for (Method m : LeaningMarket.class.getDeclaredMethods()) {
            if (Modifier.isPrivate(m.getModifiers())) {
                hiddenNames.add(m.getName());
            } else {
                openNames.add(m.getName());
                methods.add(signature(m));
            }
        }
        for (Class<?> inside : LeaningMarket.class.getDeclaredClasses()) {
            Check.due(inside + " is static", 1, () -> Modifier.isStatic(inside.getModifiers()) ? 1 : 0);
            Check.due(inside + " is not public", 0, () -> Modifier.isPublic(inside.getModifiers()) ? 1 : 0);
            for (Method m : inside.getDeclaredMethods()) {
                hiddenNames.add(m.getName());
            }
        }
        same("methods", new TreeSet<>(Arrays.asList(FACE)), methods);
        hiddenNames.retainAll(openNames);
        same("private names of public methods", new TreeSet<>(), hiddenNames);
        Constructor<?>[] makers = LeaningMarket.class.getDeclaredConstructors();
        Check.due("one constructor", 1, () -> makers.length);
        Check.due("without parameters", 0, () -> makers[0].getParameterCount());
        Check.due("which is public", 1, () -> Modifier.isPublic(makers[0].getModifiers()) ? 1 : 0);
        Check.due("the class is final", 1, () -> Modifier.isFinal(LeaningMarket.class.getModifiers()) ? 1 : 0);
        for (Field f : LeaningMarket.class.getDeclaredFields()) {
            boolean open = !Modifier.isPrivate(f.getModifiers());
            Check.due("field " + f.getName(), f.getName().equals("NONE") ? 1 : 0, () -> open ? 1 : 0);
        }
        Check.due("NONE", -1, () -> LeaningMarket.NONE);
        Check.end();
    }

    private static String signature(Method m) {
        String parameters = Arrays.stream(m.getParameterTypes()).map(t -> " " + t.getName())
            .collect(Collectors.joining());
        return m.getReturnType().getName() + " " + m.getName() + parameters;
    }

    private static void same(String what, TreeSet<String> want, TreeSet<String> got) {
        Check.due(what + ": due " + want + ", there " + got, 1, () -> want.equals(got) ? 1 : 0);
    }
}
