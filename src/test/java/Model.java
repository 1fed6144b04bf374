import java.math.BigInteger;
import java.util.ArrayList;
import java.util.Arrays;
import java.util.HashSet;
import java.util.List;
import java.util.NoSuchElementException;
import java.util.Set;
import java.util.TreeMap;

/**
 * The document said a second time, by other means and without any thought for cost: tokens ahead of
 * grammar, trees, lists that are copied whole, fractions of any size, brute force over all ways.
 * ModelTest holds it against LeaningMarket.
 */
public final class Model {
    record Cry(int a, int n, int b, int m) {
    }

    /** All that WORK changes; never changed in place once it is kept. */
    static final class Now {
        List<Integer> weights = new ArrayList<>();
        List<Integer> weighed = new ArrayList<>();
        List<Cry> cries = new ArrayList<>();
        int lean = 9;
        int day = 0;
        int weighings = 0;

        Now copy() {
            Now c = new Now();
            c.weights = new ArrayList<>(weights);
            c.weighed = new ArrayList<>(weighed);
            c.cries = new ArrayList<>(cries);
            c.lean = lean;
            c.day = day;
            c.weighings = weighings;
            return c;
        }
    }

    record Image(Now now, List<Now> past) {
    }

    record Line(int a, int b, int r) {
    }

    interface Expr {
        int of(TreeMap<String, Integer> names);
    }

    static final class Fault extends Exception {
        private static final long serialVersionUID = 1;

        final int kind;
        final int place;

        Fault(int kind, int place) {
            super(null, null, false, false);
            this.kind = kind;
            this.place = place;
        }
    }

    /** kind: 'n' a number, 'w' a word, 'e' the end, else the sign itself. */
    record Token(char kind, int place, String text) {
    }

    record Step(String word, int[] numbers, List<Step> body) {
    }

    private final List<Integer> tape = new ArrayList<>();
    private List<Integer> told = new ArrayList<>();
    private int play = 0;
    private Now now = new Now();
    private Expr law = usual();
    private List<Line> book = new ArrayList<>();
    private List<Now> past = new ArrayList<>();
    private List<Image> images = new ArrayList<>();
    private int refused = 0;
    private int place = -1;
    private int noSuch = 0;
    private int illegal = 0;
    private List<Token> tokens;
    private int next;

    private static Expr usual() {
        return names -> names.get("weighed") / 4;
    }

    // ---- what is refused

    private void need(boolean fine) {
        if (!fine) {
            illegal++;
            throw new IllegalArgumentException();
        }
    }

    private void range(int v, int least, int most) {
        need(v >= least && v <= most);
    }

    private void needThing(int thing) {
        if (thing < 0 || thing >= told.size()) {
            noSuch++;
            throw new NoSuchElementException();
        }
    }

    private void needBits(int bits) {
        need(bits >= 0 && bits < Math.pow(2, told.size()));
    }

    // ---- texts

    private void tokens(int n) {
        tokens = new ArrayList<>();
        next = 0;
        int i = 0;
        while (i < n) {
            int c = tape.get(i);
            if (c == 32) {
                i++;
                continue;
            }
            int j = i + 1;
            boolean digit = c >= 48 && c <= 57;
            boolean letter = c >= 97 && c <= 122;
            while (j < n && (digit && tape.get(j) >= 48 && tape.get(j) <= 57
                    || letter && tape.get(j) >= 97 && tape.get(j) <= 122)) {
                j++;
            }
            StringBuilder s = new StringBuilder();
            for (int k = i; k < j; k++) {
                s.append((char) (int) tape.get(k));
            }
            // A byte 'n', 'w' or 'e' is a letter, so no sign bears these names.
            tokens.add(new Token(digit ? 'n' : letter ? 'w' : (char) c, i, s.toString()));
            i = j;
        }
        tokens.add(new Token('e', n, ""));
        tape.clear();
        place = -1;
    }

    private Token token() {
        return tokens.get(next);
    }

    private Token take(char kind) throws Fault {
        Token t = token();
        if (t.kind != kind) {
            throw new Fault(1, t.place);
        }
        if (kind != 'e') {
            next++;
        }
        return t;
    }

    private int number(int least, int most) throws Fault {
        Token t = take('n');
        BigInteger v = new BigInteger(t.text);
        if (v.compareTo(BigInteger.valueOf(least)) < 0 || v.compareTo(BigInteger.valueOf(most)) > 0) {
            throw new Fault(2, t.place);
        }
        return v.intValue();
    }

    private int other(int things, int first) throws Fault {
        int at = token().place;
        int v = number(0, things - 1);
        if (v == first) {
            throw new Fault(2, at);
        }
        return v;
    }

    private int failed(Fault f) {
        place = f.place;
        return f.kind - 10;
    }

    // ---- the face

    public int feed(int a, int b, int c, int d, int e) {
        if (tape.size() + 20 > 600) {
            return -1;
        }
        for (int v : new int[] {a, b, c, d, e}) {
            for (byte one : BigInteger.valueOf(v & 0xFFFFFFFFL | 1L << 40).toByteArray()) {
                tape.add(one & 255);
            }
            // The bit above makes six bytes of every number: the first two are not its own.
            tape.remove(tape.size() - 6);
            tape.remove(tape.size() - 5);
        }
        return tape.size();
    }

    public int market(int n) {
        range(n, 0, tape.size());
        tokens(n);
        List<Integer> things = new ArrayList<>();
        List<Cry> cries = new ArrayList<>();
        int[] beam = {9, 0};
        try {
            int clauses = 0;
            while (token().kind != 'e') {
                Token word = take('w');
                if (!List.of("thing", "cry", "beam").contains(word.text)) {
                    throw new Fault(1, word.place);
                }
                clauses++;
                if (clauses > 60 || word.text.equals("thing") && things.size() == 8
                        || word.text.equals("cry") && cries.size() == 10) {
                    throw new Fault(3, word.place);
                }
                if (word.text.equals("thing")) {
                    things.add(number(1, 60));
                } else if (word.text.equals("cry")) {
                    int a = number(0, things.size() - 1);
                    int m = number(1, 9);
                    int b = other(things.size(), a);
                    cries.add(new Cry(a, m, b, number(1, 9)));
                } else {
                    beam = new int[] {number(0, 18), number(0, 9)};
                }
                take(';');
            }
        } catch (Fault f) {
            return failed(f);
        }
        told = things;
        play = beam[1];
        now = new Now();
        now.weights = new ArrayList<>(things);
        for (int i = 0; i < things.size(); i++) {
            now.weighed.add(0);
        }
        now.cries = cries;
        now.lean = beam[0];
        law = usual();
        book = new ArrayList<>();
        past = new ArrayList<>();
        images = new ArrayList<>();
        refused = 0;
        return things.size();
    }

    public int law(int n) {
        need(n >= 0 && n <= tape.size() && n <= 150);
        tokens(n);
        try {
            Expr e = sum(0);
            take('e');
            law = e;
            return 1;
        } catch (Fault f) {
            return failed(f);
        }
    }

    private Expr sum(int open) throws Fault {
        Expr left = product(open);
        while (token().kind == '+' || token().kind == '-') {
            boolean plus = take(token().kind).kind == '+';
            Expr a = left;
            Expr b = product(open);
            left = names -> plus ? a.of(names) + b.of(names) : a.of(names) - b.of(names);
        }
        return left;
    }

    private Expr product(int open) throws Fault {
        Expr left = unit(open);
        while ("*/%".indexOf(token().kind) >= 0) {
            char sign = take(token().kind).kind;
            Expr a = left;
            Expr b = unit(open);
            left = names -> {
                long x = a.of(names);
                long y = b.of(names);
                return (int) (sign == '*' ? x * y : y == 0 ? 0 : sign == '/' ? x / y : x % y);
            };
        }
        return left;
    }

    private Expr unit(int open) throws Fault {
        Token t = token();
        if (t.kind == 'n') {
            int v = number(0, 999);
            return names -> v;
        }
        if (t.kind == '(') {
            if (open == 6) {
                throw new Fault(3, t.place);
            }
            next++;
            Expr e = sum(open + 1);
            take(')');
            return e;
        }
        take('w');
        if (List.of("weight", "weighed", "cried", "thing", "day", "lean", "play").contains(t.text)) {
            return names -> names.get(t.text);
        }
        if (!t.text.equals("least") && !t.text.equals("most")) {
            throw new Fault(1, t.place);
        }
        if (open == 6) {
            throw new Fault(3, t.place);
        }
        take('[');
        Expr a = sum(open + 1);
        take(',');
        Expr b = sum(open + 1);
        take(']');
        return t.text.equals("least") ? names -> Math.min(a.of(names), b.of(names))
            : names -> Math.max(a.of(names), b.of(names));
    }

    private int wear(int weight, int weighed, int cried, int thing, int day, int lean, int play) {
        TreeMap<String, Integer> names = new TreeMap<>();
        names.put("weight", weight);
        names.put("weighed", weighed);
        names.put("cried", cried);
        names.put("thing", thing);
        names.put("day", day);
        names.put("lean", lean);
        names.put("play", play);
        return Math.min(20, Math.max(0, law.of(names)));
    }

    private int wear(Now s, int thing) {
        int cried = 0;
        for (Cry c : s.cries) {
            cried += c.a == thing || c.b == thing ? 1 : 0;
        }
        return wear(s.weights.get(thing), s.weighed.get(thing), cried, thing, s.day, s.lean, play);
    }

    public int work(int n) {
        need(n >= 0 && n <= tape.size() && n <= 150);
        tokens(n);
        if (past.size() == 16) {
            return -20;
        }
        List<Step> steps;
        try {
            steps = steps(0);
            take('e');
        } catch (Fault f) {
            return failed(f);
        }
        past = new ArrayList<>(past);
        past.add(now.copy());
        int[] tally = new int[3];
        run(steps, tally);
        refused = tally[2];
        return tally[1];
    }

    private List<Step> steps(int open) throws Fault {
        List<Step> steps = new ArrayList<>();
        while (token().kind != 'e' && !(open > 0 && token().kind == ']')) {
            Token word = take('w');
            int things = told.size();
            int[] numbers = {};
            List<Step> body = List.of();
            switch (word.text) {
                case "weigh" -> {
                    int a = number(0, things - 1);
                    int m = number(1, 9);
                    int b = other(things, a);
                    numbers = new int[] {a, m, b, number(1, 9)};
                }
                case "tip" -> numbers = new int[] {number(0, 9)};
                case "feed" -> numbers = new int[] {number(0, things - 1), number(1, 30)};
                case "turn", "day" -> {
                }
                case "again" -> {
                    if (open == 6) {
                        throw new Fault(3, word.place);
                    }
                    numbers = new int[] {number(0, 60)};
                    take('[');
                    body = steps(open + 1);
                    take(']');
                }
                default -> throw new Fault(1, word.place);
            }
            take(';');
            steps.add(new Step(word.text, numbers, body));
        }
        return steps;
    }

    /** tally: begun, done, refused. False once no more may be begun. */
    private boolean run(List<Step> steps, int[] tally) {
        for (Step s : steps) {
            if (tally[0] == 200) {
                return false;
            }
            tally[0]++;
            if (s.word.equals("again")) {
                for (int i = 0; i < s.numbers[0]; i++) {
                    if (!run(s.body, tally)) {
                        return false;
                    }
                }
            } else {
                tally[step(now, s) ? 1 : 2]++;
            }
        }
        return true;
    }

    private boolean step(Now s, Step step) {
        int[] v = step.numbers;
        switch (step.word) {
            case "weigh":
                return weigh(s, v[0], v[1], v[2], v[3]);
            case "tip":
                return v[0] < s.cries.size() && s.cries.remove(v[0]) != null;
            case "feed":
                int w = s.weights.get(v[0]);
                s.weights.set(v[0], Math.min(60, w + v[1]));
                return w != 60;
            case "turn":
                boolean could = s.lean != 9;
                s.lean = 18 - s.lean;
                return could;
            default:
                if (s.day == 300) {
                    return false;
                }
                day(s);
                return true;
        }
    }

    private int stand(int left, int right, int lean, int play) {
        int l = left + lean - 9;
        return l - right > play ? 1 : right - l > play ? 2 : 0;
    }

    private boolean weigh(Now s, int a, int n, int b, int m) {
        if (a == b || s.cries.size() == 10) {
            return false;
        }
        int r = stand(s.weights.get(a) * n, s.weights.get(b) * m, s.lean, play);
        Cry c = r == 1 ? new Cry(a, n, b, m) : r == 2 ? new Cry(b, m, a, n) : null;
        if (c != null && s.cries.contains(c)) {
            return false;
        }
        if (c != null) {
            s.cries.add(c);
        }
        s.weighed.set(a, s.weighed.get(a) + 1);
        s.weighed.set(b, s.weighed.get(b) + 1);
        s.weighings++;
        return true;
    }

    private void day(Now s) {
        Now begun = s.copy();
        for (int i = 0; i < s.weights.size(); i++) {
            s.weights.set(i, Math.max(1, begun.weights.get(i) - wear(begun, i)));
        }
        s.day++;
    }

    public int book(int n) {
        need(n >= 0 && n <= tape.size() && n <= 60);
        tokens(n);
        List<Line> lines = new ArrayList<>();
        try {
            while (token().kind != 'e') {
                int at = token().place;
                int a = number(0, told.size() - 1);
                if (lines.size() == 6) {
                    throw new Fault(3, at);
                }
                int b = other(told.size(), a);
                lines.add(new Line(a, b, number(0, 2)));
                take(';');
            }
        } catch (Fault f) {
            return failed(f);
        }
        book = lines;
        return lines.size();
    }

    public int fault() {
        return place;
    }

    public int undo() {
        if (past.isEmpty()) {
            return -1;
        }
        past = new ArrayList<>(past);
        now = past.remove(past.size() - 1).copy();
        refused = 0;
        return past.size();
    }

    private int sum(Now s) {
        return s.weights.stream().mapToInt(i -> i).sum();
    }

    private int notSo(Now s) {
        int bits = 0;
        for (int i = 0; i < s.cries.size(); i++) {
            Cry c = s.cries.get(i);
            bits += s.weights.get(c.a) * c.n >= s.weights.get(c.b) * c.m ? 0 : 1 << i;
        }
        return bits;
    }

    private int criesOf(Now s, int thing) {
        int bits = 0;
        for (int i = 0; i < s.cries.size(); i++) {
            bits += s.cries.get(i).a == thing || s.cries.get(i).b == thing ? 1 << i : 0;
        }
        return bits;
    }

    private int heavy(Now s) {
        int best = -1;
        for (int i = s.weights.size() - 1; i >= 0; i--) {
            best = best < 0 || s.weights.get(i) >= s.weights.get(best) ? i : best;
        }
        return best;
    }

    public int told(int what) {
        range(what, 0, 10);
        int in = 0;
        for (int i = 0; i < told.size(); i++) {
            in += criesOf(now, i) != 0 ? 1 << i : 0;
        }
        return new int[] {told.size(), now.cries.size(), now.day, now.lean, play, sum(now), notSo(now), in,
            book.size(), refused, now.weighings}[what];
    }

    public int thing(int thing, int what) {
        needThing(thing);
        range(what, 0, 4);
        return new int[] {now.weights.get(thing), told.get(thing), now.weighed.get(thing), criesOf(now, thing),
            wear(now, thing)}[what];
    }

    public int cry(int cry, int what) {
        if (cry < 0 || cry >= now.cries.size()) {
            noSuch++;
            throw new NoSuchElementException();
        }
        range(what, 0, 3);
        Cry c = now.cries.get(cry);
        return new int[] {c.a, c.n, c.b, c.m}[what];
    }

    public int stands(int a, int n, int b, int m) {
        needThing(a);
        needThing(b);
        range(n, 1, 9);
        range(m, 1, 9);
        return stand(now.weights.get(a) * n, now.weights.get(b) * m, now.lean, play);
    }

    public int would(int weight, int weighed, int cried, int thing, int day, int lean, int play) {
        range(weight, 1, 60);
        range(weighed, 0, 999);
        range(cried, 0, 10);
        range(thing, 0, 7);
        range(day, 0, 300);
        range(lean, 0, 18);
        range(play, 0, 9);
        return wear(weight, weighed, cried, thing, day, lean, play);
    }

    public int ahead(int n, int what) {
        range(n, 0, 99);
        range(what, 0, 2);
        Now s = now.copy();
        for (int i = 0; i < n; i++) {
            day(s);
        }
        return what == 0 ? sum(s) : what == 1 ? heavy(s) : notSo(s);
    }

    /** All chains (from is not to) or rings (from is to), each as its cries in order. */
    private void ways(List<Cry> cries, int from, int to, List<Integer> way, List<List<Integer>> found) {
        int at = way.isEmpty() ? from : cries.get(way.get(way.size() - 1)).b;
        if (!way.isEmpty() && at == to) {
            found.add(new ArrayList<>(way));
            return;
        }
        Set<Integer> met = new HashSet<>(List.of(from));
        for (int c : way) {
            met.add(cries.get(c).b);
        }
        for (int c = 0; c < cries.size(); c++) {
            if (cries.get(c).a == at && (cries.get(c).b == to || !met.contains(cries.get(c).b))) {
                way.add(c);
                ways(cries, from, to, way, found);
                way.remove(way.size() - 1);
            }
        }
    }

    private List<List<Integer>> rings(List<Cry> cries) {
        List<List<Integer>> found = new ArrayList<>();
        for (int i = 0; i < told.size(); i++) {
            ways(cries, i, i, new ArrayList<>(), found);
        }
        return found;
    }

    private BigInteger[] worth(List<Cry> cries, List<Integer> way) {
        BigInteger up = BigInteger.ONE;
        BigInteger down = BigInteger.ONE;
        for (int c : way) {
            up = up.multiply(BigInteger.valueOf(cries.get(c).m));
            down = down.multiply(BigInteger.valueOf(cries.get(c).n));
        }
        return new BigInteger[] {up, down};
    }

    private long greatest(List<List<Integer>> ways, int part) {
        BigInteger[] best = {BigInteger.ZERO, BigInteger.ONE};
        for (List<Integer> way : ways) {
            BigInteger[] w = worth(now.cries, way);
            if (w[0].multiply(best[1]).compareTo(best[0].multiply(w[1])) > 0) {
                best = w;
            }
        }
        return best[part].divide(best[0].gcd(best[1])).longValueExact();
    }

    public long worth(int thing, int other, int part) {
        needThing(thing);
        needThing(other);
        need(thing != other);
        range(part, 0, 1);
        List<List<Integer>> found = new ArrayList<>();
        ways(now.cries, thing, other, new ArrayList<>(), found);
        return greatest(found, part);
    }

    public long fattest(int part) {
        range(part, 0, 1);
        return greatest(rings(now.cries), part);
    }

    private boolean isFat(List<Cry> cries, List<Integer> ring) {
        BigInteger[] w = worth(cries, ring);
        return w[0].compareTo(w[1]) > 0;
    }

    public int fat() {
        int best = -1;
        for (List<Integer> ring : rings(now.cries)) {
            if (isFat(now.cries, ring) && (best < 0 || ring.size() < best)) {
                best = ring.size();
            }
        }
        return best;
    }

    public int mend() {
        for (int size = 0; size <= now.cries.size(); size++) {
            for (int gone = 0; gone < 1 << now.cries.size(); gone++) {
                if (Integer.bitCount(gone) != size) {
                    continue;
                }
                List<Cry> left = new ArrayList<>();
                for (int c = 0; c < now.cries.size(); c++) {
                    if ((gone & 1 << c) == 0) {
                        left.add(now.cries.get(c));
                    }
                }
                if (rings(left).stream().noneMatch(r -> isFat(left, r))) {
                    return gone;
                }
            }
        }
        throw new IllegalStateException("unreachable");
    }

    /** For every way to lay told things left, right or nowhere: the amount, and what is laid. */
    private List<int[]> laid(int things) {
        List<int[]> all = new ArrayList<>();
        all.add(new int[] {0, 0});
        for (int i = 0; i < told.size(); i++) {
            if ((things & 1 << i) != 0) {
                List<int[]> more = new ArrayList<>(all);
                for (int[] way : all) {
                    more.add(new int[] {way[0] + now.weights.get(i), way[1] | 1 << i});
                    more.add(new int[] {way[0] - now.weights.get(i), way[1] | 1 << i});
                }
                all = more;
            }
        }
        return all;
    }

    public int match(int things, int what) {
        needBits(things);
        range(what, 0, 1);
        Set<Integer> amounts = new HashSet<>();
        for (int[] way : laid(things)) {
            if (way[0] > 0) {
                amounts.add(way[0]);
            }
        }
        int gap = 1;
        while (amounts.contains(gap)) {
            gap++;
        }
        return what == 0 ? amounts.size() : gap;
    }

    public int fewest(int n) {
        range(n, 1, 480);
        int best = -1;
        for (int[] way : laid((1 << told.size()) - 1)) {
            if (way[0] == n && (best < 0 || Integer.bitCount(way[1]) * 1000 + way[1]
                    < Integer.bitCount(best) * 1000 + best)) {
                best = way[1];
            }
        }
        return best;
    }

    public int level(int things, int what) {
        needBits(things);
        range(what, 0, 1);
        int[] best = {0, 0};
        boolean any = false;
        for (int pan = 1; pan <= things; pan++) {
            boolean holdsLeast = Integer.numberOfTrailingZeros(pan) == Integer.numberOfTrailingZeros(things);
            if ((pan & ~things) == 0 && holdsLeast) {
                int apart = 0;
                for (int i = 0; i < told.size(); i++) {
                    int w = (things & 1 << i) == 0 ? 0 : now.weights.get(i);
                    apart += (pan & 1 << i) != 0 ? w : -w;
                }
                if (!any || Math.abs(apart) < best[0]) {
                    best = new int[] {Math.abs(apart), pan};
                    any = true;
                }
            }
        }
        return best[what];
    }

    private List<int[]> pairs(List<Line> lines) {
        List<int[]> pairs = new ArrayList<>();
        for (int lean = 0; lean <= 18; lean++) {
            for (int p = 0; p <= 9; p++) {
                boolean fits = true;
                for (Line l : lines) {
                    fits &= stand(now.weights.get(l.a), now.weights.get(l.b), lean, p) == l.r;
                }
                if (fits) {
                    pairs.add(new int[] {lean, p});
                }
            }
        }
        return pairs;
    }

    public int fits(int what) {
        range(what, 0, 1);
        List<int[]> pairs = pairs(book);
        return what == 0 ? pairs.size() : pairs.isEmpty() ? -1 : 10 * pairs.get(0)[0] + pairs.get(0)[1];
    }

    public int look(int what) {
        range(what, 0, 1);
        int[] best = {-1, -1};
        for (int a = 0; a < told.size(); a++) {
            for (int b = a + 1; b < told.size(); b++) {
                int worst = 0;
                for (int r = 0; r <= 2; r++) {
                    List<Line> more = new ArrayList<>(book);
                    more.add(new Line(a, b, r));
                    worst = Math.max(worst, pairs(more).size());
                }
                if (best[0] < 0 || worst < best[1]) {
                    best = new int[] {10 * a + b, worst};
                }
            }
        }
        return best[what];
    }

    public int falsely(int n) {
        range(n, 1, 9999);
        if (n <= 2) {
            return -1;
        }
        for (int w = 2;; w++) {
            if (BigInteger.valueOf(3).pow(w).intValue() - 3 >= 2 * n) {
                return w;
            }
        }
    }

    public int sellers(int v, int w, int what) {
        range(v, 0, 99);
        range(w, 0, 99);
        range(what, 0, 2);
        int[][] has = {{v, 0}, {w, -1}};
        int[] answer = {0, -1, 0};
        for (int one = 0; one <= 1; one++) {
            for (int other = 0; other <= 1; other++) {
                if (has[one][other] >= has[1 - one][other] && has[other][one] >= has[1 - other][one]) {
                    if (answer[0] == 0) {
                        answer[1] = 10 * one + other;
                        answer[2] = has[one][other] + has[other][one];
                    }
                    answer[0]++;
                }
            }
        }
        return answer[what];
    }

    public long even(int n, int q, int part) {
        range(n, 0, 12);
        range(q, 0, 16);
        range(part, 0, 1);
        BigInteger up = BigInteger.ZERO;
        for (int tips = 0; tips < 1 << n; tips++) {
            if (2 * Integer.bitCount(tips) == n) {
                BigInteger p = BigInteger.ONE;
                for (int i = 0; i < n; i++) {
                    p = p.multiply(BigInteger.valueOf((tips & 1 << i) != 0 ? q : 16 - q));
                }
                up = up.add(p);
            }
        }
        BigInteger down = BigInteger.valueOf(16).pow(n);
        return (part == 0 ? up : down).divide(up.gcd(down)).longValueExact();
    }

    public int share(int thing, int things, int n) {
        needThing(thing);
        needBits(things);
        range(n, 0, 999);
        int[] got = new int[told.size()];
        // One more for each that can still have more, as long as there is enough for all of them.
        while (true) {
            int wanting = 0;
            for (int i = 0; i < got.length; i++) {
                wanting += (things & 1 << i) != 0 && got[i] < now.weights.get(i) ? 1 : 0;
            }
            if (wanting == 0 || Arrays.stream(got).sum() + wanting > n) {
                return got[thing];
            }
            for (int i = 0; i < got.length; i++) {
                got[i] += (things & 1 << i) != 0 && got[i] < now.weights.get(i) ? 1 : 0;
            }
        }
    }

    public int heaviest(int what) {
        range(what, 0, 1);
        int h = heavy(now);
        return what == 0 ? h : h < 0 ? -1 : now.weights.get(h);
    }

    public int above(int thing) {
        needThing(thing);
        int bits = 0;
        for (int i = 0; i < told.size(); i++) {
            List<List<Integer>> found = new ArrayList<>();
            if (i != thing) {
                ways(now.cries, i, thing, new ArrayList<>(), found);
            }
            for (List<Integer> way : found) {
                BigInteger[] w = worth(now.cries, way);
                bits |= w[0].compareTo(w[1]) >= 0 ? 1 << i : 0;
            }
        }
        return bits;
    }

    public int alike(int what) {
        range(what, 0, 1);
        List<Integer> found = new ArrayList<>();
        for (int a = 0; a < told.size(); a++) {
            for (int b = 0; b < told.size(); b++) {
                if (a < b && now.weights.get(a).intValue() == now.weights.get(b).intValue()) {
                    found.add(10 * a + b);
                }
            }
        }
        return what == 0 ? found.size() : found.isEmpty() ? -1 : found.get(0);
    }

    public int against(int thing, int other) {
        needThing(thing);
        needThing(other);
        int n = (now.weights.get(other) + now.weights.get(thing) - 1) / now.weights.get(thing);
        return n > 9 ? -1 : n;
    }

    private int drawn(long[] seed, int by) {
        seed[0] = (seed[0] * 1103515245L + 12345L) & 0xFFFFFFFFL;
        return (int) (seed[0] / 65536 % 32768 % by);
    }

    private Now fairEnd(int firstSeed, int days, int q) {
        Now s = now.copy();
        long[] seed = {firstSeed & 0xFFFFFFFFL};
        for (int i = 0; i < days; i++) {
            if (!told.isEmpty()) {
                int a = drawn(seed, told.size());
                int b = drawn(seed, told.size());
                weigh(s, a, drawn(seed, 3) + 1, b, 1);
                if (drawn(seed, 16) < q && !s.cries.isEmpty()) {
                    s.cries.remove(0);
                }
            }
            day(s);
        }
        return s;
    }

    public int fair(int seed, int days, int q, int what) {
        range(days, 1, 96);
        range(q, 0, 16);
        range(what, 0, 3);
        Now s = fairEnd(seed, days, q);
        return new int[] {sum(s), s.cries.size(), s.weighings - now.weighings, notSo(s)}[what];
    }

    public int span(int seed, int many, int days, int q, int what, int thing) {
        range(many, 1, 20);
        range(days, 1, 96);
        range(q, 0, 16);
        range(what, 0, 2);
        range(thing, 0, told.size() - 1);
        List<Integer> sums = new ArrayList<>();
        int in = 0;
        for (int i = 0; i < many; i++) {
            Now s = fairEnd(seed + i, days, q);
            sums.add(sum(s));
            in += criesOf(s, thing) != 0 ? 1 : 0;
        }
        sums.sort(null);
        return what == 0 ? sums.get(0) : what == 1 ? sums.get(many - 1) : in;
    }

    public int image() {
        if (images.size() == 3) {
            return -1;
        }
        images.add(new Image(now.copy(), past));
        return images.size();
    }

    public int restore() {
        if (images.isEmpty()) {
            return -1;
        }
        Image image = images.remove(images.size() - 1);
        now = image.now.copy();
        past = image.past;
        refused = 0;
        return images.size();
    }

    public int status(int what) {
        return what == 0 ? noSuch : what == 1 ? illegal : -1;
    }

    public int count(int what) {
        return what == 0 ? images.size() : what == 1 ? tape.size() : what == 2 ? past.size() : -1;
    }
}
