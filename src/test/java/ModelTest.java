import java.lang.reflect.InvocationTargetException;
import java.lang.reflect.Method;
import java.util.ArrayList;
import java.util.Arrays;
import java.util.Comparator;
import java.util.List;
import java.util.Map;
import java.util.Random;
import java.util.TreeMap;

/** Random runs of calls, by fixed seeds, on LeaningMarket and on Model: every answer must be the same. */
public final class ModelTest {
    private static final int RUNS = 1500;
    private static final int CALLS = 300;

    /** For each call of the face: the least and the most of each argument that is asked for mostly. */
    private static final Map<String, int[]> RANGES = new TreeMap<>();

    static {
        RANGES.put("fault", new int[] {});
        RANGES.put("undo", new int[] {});
        RANGES.put("told", new int[] {0, 10});
        RANGES.put("thing", new int[] {0, 4, 0, 4});
        RANGES.put("cry", new int[] {0, 5, 0, 3});
        RANGES.put("stands", new int[] {0, 4, 1, 9, 0, 4, 1, 9});
        RANGES.put("would", new int[] {1, 60, 0, 999, 0, 10, 0, 7, 0, 300, 0, 18, 0, 9});
        RANGES.put("ahead", new int[] {0, 99, 0, 2});
        RANGES.put("worth", new int[] {0, 4, 0, 4, 0, 1});
        RANGES.put("fattest", new int[] {0, 1});
        RANGES.put("fat", new int[] {});
        RANGES.put("mend", new int[] {});
        RANGES.put("match", new int[] {0, 63, 0, 1});
        RANGES.put("fewest", new int[] {1, 160});
        RANGES.put("level", new int[] {0, 63, 0, 1});
        RANGES.put("fits", new int[] {0, 1});
        RANGES.put("look", new int[] {0, 1});
        RANGES.put("falsely", new int[] {1, 9999});
        RANGES.put("sellers", new int[] {0, 99, 0, 99, 0, 2});
        RANGES.put("even", new int[] {0, 12, 0, 16, 0, 1});
        RANGES.put("share", new int[] {0, 4, 0, 63, 0, 200});
        RANGES.put("heaviest", new int[] {0, 1});
        RANGES.put("above", new int[] {0, 4});
        RANGES.put("alike", new int[] {0, 1});
        RANGES.put("against", new int[] {0, 4, 0, 4});
        RANGES.put("fair", new int[] {-5, 99, 1, 96, 0, 16, 0, 3});
        RANGES.put("span", new int[] {-5, 99, 1, 20, 1, 96, 0, 16, 0, 2, 0, 4});
        RANGES.put("image", new int[] {});
        RANGES.put("restore", new int[] {});
        RANGES.put("status", new int[] {0, 1});
        RANGES.put("count", new int[] {0, 2});
    }

    private final Random random;
    private final LeaningMarket real = new LeaningMarket();
    private final Model model = new Model();
    private final List<String> log = new ArrayList<>();

    private ModelTest(long seed) {
        random = new Random(seed);
    }

    public static void main(String[] args) throws Exception {
        int runs = args.length > 0 ? Integer.parseInt(args[0]) : RUNS;
        int from = args.length > 1 ? Integer.parseInt(args[1]) : 0;
        Map<String, Integer> answers = new TreeMap<>();
        for (int run = from; run < from + runs; run++) {
            ModelTest test = new ModelTest(run);
            if (!test.isSame(answers)) {
                System.out.println("run " + run + " by seed:");
                test.log.forEach(System.out::println);
                System.exit(1);
            }
        }
        System.out.println(runs + " runs as the model; answers of each kind: " + answers);
    }

    private boolean isSame(Map<String, Integer> answers) throws Exception {
        Method[] face = Arrays.stream(LeaningMarket.class.getMethods())
            .filter(m -> m.getDeclaringClass() == LeaningMarket.class && RANGES.containsKey(m.getName()))
            .sorted(Comparator.comparing(Method::getName)).toArray(Method[]::new);
        if (face.length != RANGES.size()) {
            return false;
        }
        if (random.nextInt(20) != 0 && !isSameText("market", marketText())) {
            return false;
        }
        while (log.size() < CALLS) {
            int die = random.nextInt(100);
            boolean same;
            if (die == 0) {
                same = isSameText("market", marketText());
            } else if (die < 5) {
                same = isSameText("law", lawText());
            } else if (die < 14) {
                same = isSameText("work", workText());
            } else if (die < 17) {
                same = isSameText("book", bookText());
            } else {
                Method m = face[random.nextInt(face.length)];
                same = isSameCall(m.getName(), arguments(m.getName()));
            }
            if (!same) {
                return false;
            }
        }
        for (String line : log) {
            boolean thrown = line.contains("throws.");
            answers.merge(thrown ? line.substring(line.indexOf("throws.")) : "plain", 1, Integer::sum);
        }
        return true;
    }

    private int[] arguments(String name) {
        int[] range = RANGES.get(name);
        int[] values = new int[range.length / 2];
        boolean odd = random.nextInt(12) == 0;
        for (int i = 0; i < values.length; i++) {
            int least = range[2 * i];
            int most = range[2 * i + 1];
            values[i] = least + random.nextInt(most - least + 1);
            if (odd && random.nextInt(2) == 0) {
                int[] edges = {least - 1, least, most, most + 1, -1, 255, 256, 480, 481, 999, 1000,
                    Integer.MIN_VALUE, Integer.MAX_VALUE, random.nextInt()};
                values[i] = edges[random.nextInt(edges.length)];
            }
        }
        return values;
    }

    private boolean isSameCall(String name, int... values) throws Exception {
        Class<?>[] types = new Class<?>[values.length];
        Object[] boxed = new Object[values.length];
        for (int i = 0; i < values.length; i++) {
            types[i] = int.class;
            boxed[i] = values[i];
        }
        String got = answer(real, LeaningMarket.class.getMethod(name, types), boxed);
        String want = answer(model, Model.class.getMethod(name, types), boxed);
        boolean same = got.equals(want);
        log.add(name + Arrays.toString(values) + " " + got + (same ? "" : ", by the model " + want));
        return same;
    }

    private static String answer(Object x, Method m, Object[] values) throws Exception {
        try {
            return m.invoke(x, values).toString();
        } catch (InvocationTargetException e) {
            return "throws." + e.getCause().getClass().getSimpleName();
        }
    }

    private boolean isSameText(String name, String text) throws Exception {
        String told = random.nextInt(6) == 0 ? spoilt(text) : text;
        log.add("  text " + told);
        for (int from = 0; from < told.length(); from += 20) {
            int[] five = new int[5];
            for (int i = 0; i < 20; i++) {
                int sign = from + i < told.length() ? told.charAt(from + i) & 255 : ' ';
                five[i / 4] |= sign << 24 - 8 * (i % 4);
            }
            if (!isSameCall("feed", five)) {
                return false;
            }
        }
        int n = random.nextInt(25) == 0 ? random.nextInt(told.length() + 30) - 1 : told.length();
        if (!isSameCall(name, n) || !isSameCall("fault") || !isSameCall("count", 1)) {
            return false;
        }
        for (int what = 0; what <= 10; what++) {
            if (!isSameCall("told", what)) {
                return false;
            }
        }
        return true;
    }

    // ---- texts

    private String blanks() {
        return random.nextInt(4) == 0 ? " ".repeat(1 + random.nextInt(2)) : "";
    }

    private String number(int least, int most) {
        int v = least + random.nextInt(Math.max(1, most - least + 1));
        int die = random.nextInt(600);
        v = die == 0 ? most + 1 : die == 1 ? Math.max(0, least - 1) : v;
        return (random.nextInt(40) == 0 ? "00" : "") + v;
    }

    private String spoilt(String text) {
        StringBuilder s = new StringBuilder(text);
        String signs = " ;[](),+-*/%0123456789abcdefghijklmnopqrstuvwxyzA" + (char) 200 + (char) 0 + '\t';
        for (int i = 1 + random.nextInt(2); i > 0; i--) {
            int at = random.nextInt(s.length() + 1);
            char sign = signs.charAt(random.nextInt(signs.length()));
            switch (random.nextInt(4)) {
                case 0 -> s.insert(at, sign);
                case 1 -> s.setLength(at);
                case 2 -> {
                    if (at < s.length()) {
                        s.setCharAt(at, sign);
                    }
                }
                default -> {
                    if (at < s.length()) {
                        s.deleteCharAt(at);
                    }
                }
            }
        }
        return s.toString();
    }

    private String marketText() {
        StringBuilder s = new StringBuilder();
        int things = random.nextInt(15) == 0 ? random.nextInt(10) : 2 + random.nextInt(5);
        int greatest = random.nextBoolean() ? 60 : 12;
        for (int i = 0; i < things; i++) {
            s.append(blanks()).append("thing ").append(number(1, greatest)).append(blanks()).append(';');
        }
        int cries = things < 2 ? 0 : random.nextInt(random.nextInt(9) == 0 ? 12 : 9);
        int factor = random.nextBoolean() ? 9 : 3;
        for (int i = 0; i < cries; i++) {
            int a = random.nextInt(things);
            int b = random.nextInt(60) == 0 ? a : (a + 1 + random.nextInt(things - 1)) % things;
            s.append(blanks()).append("cry ").append(a).append(' ').append(number(1, factor)).append(' ')
                .append(b).append(' ').append(number(1, factor)).append(';');
        }
        for (int i = random.nextInt(3); i > 0; i--) {
            s.append("beam ").append(number(0, 18)).append(' ').append(number(0, 9)).append(';').append(blanks());
        }
        if (random.nextInt(30) == 0) {
            s.append("beam0 0;".repeat(45));
        }
        return s.toString();
    }

    private String lawText() {
        String text = sum(random.nextInt(30) == 0 ? 7 : 3);
        for (int i = 0; i < 50 && text.length() > 150 && random.nextInt(20) != 0; i++) {
            text = sum(2);
        }
        return text;
    }

    private String sum(int deep) {
        StringBuilder s = new StringBuilder(product(deep));
        for (int i = random.nextInt(3); i > 0; i--) {
            s.append(blanks()).append(random.nextBoolean() ? '+' : '-').append(product(deep));
        }
        return s.toString();
    }

    private String product(int deep) {
        StringBuilder s = new StringBuilder(unit(deep));
        for (int i = random.nextInt(5) / 2; i > 0; i--) {
            s.append(blanks()).append("*/%".charAt(random.nextInt(3))).append(unit(deep));
        }
        return s.toString();
    }

    private String unit(int deep) {
        int die = random.nextInt(deep > 3 ? 2 : 9);
        if (deep > 0 && die == 0) {
            return blanks() + "(" + (deep > 3 ? unit(deep - 1) : sum(deep - 1)) + blanks() + ")";
        }
        if (deep > 0 && die == 1) {
            String word = random.nextBoolean() ? "least" : "most";
            return blanks() + word + blanks() + "[" + unit(deep - 1) + blanks() + "," + unit(0) + "]";
        }
        String[] names = {"weight", "weighed", "cried", "thing", "day", "lean", "play"};
        return blanks() + (die < 5 ? names[random.nextInt(7)]
            : number(0, random.nextInt(5) == 0 ? 999 : 9));
    }

    private String workText() {
        int things = model.told(0);
        StringBuilder s = new StringBuilder();
        for (int i = random.nextInt(9); i > 0; i--) {
            s.append(step(things, random.nextInt(40) == 0 ? 7 : 2));
        }
        while (s.length() > 150 && random.nextInt(10) != 0) {
            s.setLength(0);
            s.append(step(things, 2)).append(step(things, 1)).append(step(things, 0));
        }
        return s.toString();
    }

    private String step(int things, int deep) {
        int die = random.nextInt(deep > 3 ? 1 : 12);
        StringBuilder s = new StringBuilder(blanks());
        if (deep > 0 && die < 2) {
            s.append("again ").append(number(0, random.nextInt(3) == 0 ? 60 : 6)).append(blanks()).append('[');
            for (int i = deep > 3 ? 1 : random.nextInt(3); i > 0; i--) {
                s.append(step(things, deep - 1));
            }
            return s.append(blanks()).append("];").toString();
        }
        if (die < 7 && things >= 2) {
            int a = random.nextInt(things);
            int b = random.nextInt(60) == 0 ? a : (a + 1 + random.nextInt(things - 1)) % things;
            s.append("weigh ").append(a).append(' ').append(number(1, 9)).append(' ').append(b).append(' ')
                .append(number(1, 9));
        } else if (die < 8 || die < 10 && things == 0) {
            s.append("tip ").append(number(0, 3));
        } else if (die < 10) {
            s.append("feed ").append(number(0, things - 1)).append(' ').append(number(1, 30));
        } else {
            s.append(die == 10 ? "turn" : "day");
        }
        return s.append(blanks()).append(';').toString();
    }

    private String bookText() {
        int things = model.told(0);
        StringBuilder s = new StringBuilder();
        int lines = things < 2 ? 0 : random.nextInt(random.nextInt(8) == 0 ? 8 : 4);
        for (int i = 0; i < lines; i++) {
            int a = random.nextInt(things);
            int b = (a + 1 + random.nextInt(things - 1)) % things;
            // Mostly as some beam would stand, so that pairs are left.
            int by = random.nextInt(3) == 0 ? random.nextInt(3)
                : model.thing(a, 0) > model.thing(b, 0) ? 1 : model.thing(a, 0) < model.thing(b, 0) ? 2 : 0;
            s.append(blanks()).append(a).append(' ').append(b).append(' ').append(by).append(blanks()).append(';');
        }
        return s.toString();
    }
}
