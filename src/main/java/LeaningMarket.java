import java.util.Arrays;
import java.util.NoSuchElementException;

/**
 * A market with a balance and no weights. The public methods stand in the order of the document's
 * promises; all rows are made once, with the object, and used again by every call.
 */
public final class LeaningMarket {
    public static final int NONE = -1;

    private static final int TAPE_BYTES = 600;
    private static final int LAW_BYTES = 150;
    private static final int WORK_BYTES = 150;
    private static final int BOOK_BYTES = 60;

    private static final int MAX_CLAUSES = 60;
    private static final int MAX_THINGS = 8;
    private static final int MAX_CRIES = 10;
    private static final int MAX_LINES = 6;
    private static final int MAX_OPEN = 6;
    private static final int MAX_BEGUN = 200;
    private static final int MAX_WORKS = 16;
    private static final int MAX_IMAGES = 3;

    private static final int MAX_WEIGHT = 60;
    private static final int MAX_TIMES = 9;
    private static final int MAX_LEAN = 18;
    private static final int MAX_PLAY = 9;
    private static final int MAX_WEAR = 20;
    private static final int MAX_FED = 30;
    private static final int MAX_ROUNDS = 60;
    private static final int LEVEL_LEAN = 9;
    private static final int LAST_DAY = 300;

    private static final int CANNOT_STAND = 1;
    private static final int NO_SUCH_NUMBER = 2;
    private static final int TOO_MANY = 3;
    private static final int FAULT_LESS = 10;
    private static final int WORKS_FULL = -20;

    private static final int LEVEL = 0;
    private static final int LEFT_DOWN = 1;
    private static final int RIGHT_DOWN = 2;

    private final Text text = new Text();
    private final State now = new State();
    private final State draft = new State();
    private final Work steps = new Work();
    private final Past past = new Past();
    private final Chains chains = new Chains();
    private final Pans pans = new Pans();
    private final Fair fairs = new Fair();
    private Law rule = new Law();
    private Law spareRule = new Law();
    private Book lines = new Book();
    private Book spareLines = new Book();
    private int refusedSteps;
    private int noSuchCalls;
    private int illegalCalls;

    public LeaningMarket() {
    }

    public int feed(int a, int b, int c, int d, int e) {
        if (text.held > TAPE_BYTES - 20) {
            return NONE;
        }
        text.put(a);
        text.put(b);
        text.put(c);
        text.put(d);
        text.put(e);
        return text.held;
    }

    public int market(int n) throws IllegalArgumentException {
        demand(n >= 0 && n <= text.held);
        text.open(n);
        if (!draft.readFrom(text)) {
            return text.faultKind - FAULT_LESS;
        }
        now.copyFrom(draft);
        rule.becomeUsual();
        lines.size = 0;
        past.forget();
        refusedSteps = 0;
        return now.things;
    }

    public int law(int n) throws IllegalArgumentException {
        demand(n >= 0 && n <= text.held && n <= LAW_BYTES);
        text.open(n);
        if (!spareRule.readFrom(text)) {
            return text.faultKind - FAULT_LESS;
        }
        Law read = spareRule;
        spareRule = rule;
        rule = read;
        return 1;
    }

    public int work(int n) throws IllegalArgumentException {
        demand(n >= 0 && n <= text.held && n <= WORK_BYTES);
        text.open(n);
        if (past.works >= MAX_WORKS) {
            return WORKS_FULL;
        }
        if (!steps.readFrom(text, now.things)) {
            return text.faultKind - FAULT_LESS;
        }
        past.keep(now);
        steps.doAll(now, rule);
        refusedSteps = steps.refused;
        return steps.done;
    }

    public int book(int n) throws IllegalArgumentException {
        demand(n >= 0 && n <= text.held && n <= BOOK_BYTES);
        text.open(n);
        if (!spareLines.readFrom(text, now.things)) {
            return text.faultKind - FAULT_LESS;
        }
        Book read = spareLines;
        spareLines = lines;
        lines = read;
        return lines.size;
    }

    public int fault() {
        return text.faultPlace;
    }

    public int undo() {
        if (past.works <= 0) {
            return -1;
        }
        past.takeBack(now);
        refusedSteps = 0;
        return past.works;
    }

    public int told(int what) throws IllegalArgumentException {
        demand(what >= 0 && what <= 10);
        switch (what) {
            case 0: return now.things;
            case 1: return now.cries;
            case 2: return now.day;
            case 3: return now.lean;
            case 4: return now.play;
            case 5: return now.weightOfAll();
            case 6: return now.criesNotSo();
            case 7: return now.thingsCried();
            case 8: return lines.size;
            case 9: return refusedSteps;
            default: return now.weighings;
        }
    }

    public int thing(int thing, int what) throws NoSuchElementException, IllegalArgumentException {
        demandThing(thing);
        demand(what >= 0 && what <= 4);
        switch (what) {
            case 0: return now.weightOf(thing);
            case 1: return now.toldOf(thing);
            case 2: return now.weighedOf(thing);
            case 3: return now.criesWith(thing);
            default: return now.wearOf(thing, rule);
        }
    }

    public int cry(int cry, int what) throws NoSuchElementException, IllegalArgumentException {
        demandPresent(cry >= 0 && cry < now.cries);
        demand(what >= 0 && what <= 3);
        return now.cryPart(cry, what);
    }

    public int stands(int a, int n, int b, int m) throws NoSuchElementException, IllegalArgumentException {
        demandThing(a);
        demandThing(b);
        demand(n >= 1 && n <= MAX_TIMES && m >= 1 && m <= MAX_TIMES);
        return now.standingOf(a, n, b, m);
    }

    public int would(int weight, int weighed, int cried, int thing, int day, int lean, int play)
            throws IllegalArgumentException {
        demand(weight >= 1 && weight <= MAX_WEIGHT);
        demand(weighed >= 0 && weighed <= 999);
        demand(cried >= 0 && cried <= MAX_CRIES);
        demand(thing >= 0 && thing < MAX_THINGS);
        demand(day >= 0 && day <= LAST_DAY);
        demand(lean >= 0 && lean <= MAX_LEAN);
        demand(play >= 0 && play <= MAX_PLAY);
        return rule.wear(weight, weighed, cried, thing, day, lean, play);
    }

    public int ahead(int n, int what) throws IllegalArgumentException {
        demand(n >= 0 && n <= 99 && what >= 0 && what <= 2);
        draft.copyFrom(now);
        for (int i = 0; i < n; i++) {
            draft.passDay(rule);
        }
        switch (what) {
            case 0: return draft.weightOfAll();
            case 1: return draft.heaviestThing();
            default: return draft.criesNotSo();
        }
    }

    public long worth(int thing, int other, int part) throws NoSuchElementException, IllegalArgumentException {
        demandThing(thing);
        demandThing(other);
        demand(thing != other && isPart(part));
        chains.seekChain(now, thing, other);
        return chains.bestPart(part);
    }

    public long fattest(int part) throws IllegalArgumentException {
        demand(isPart(part));
        chains.seekRings(now);
        return chains.bestPart(part);
    }

    public int fat() {
        chains.seekRings(now);
        return chains.shortestFat;
    }

    public int mend() {
        chains.seekRings(now);
        return chains.fewestGone(now.cries);
    }

    public int match(int things, int what) throws IllegalArgumentException {
        demandBits(things);
        demand(what == 0 || what == 1);
        pans.seekAmounts(now, things);
        return what == 0 ? pans.amounts() : pans.gap();
    }

    public int fewest(int n) throws IllegalArgumentException {
        demand(n >= 1 && n <= MAX_THINGS * MAX_WEIGHT);
        return pans.fewestFor(now, n);
    }

    public int level(int things, int what) throws IllegalArgumentException {
        demandBits(things);
        demand(what == 0 || what == 1);
        pans.layLevel(now, things);
        return what == 0 ? pans.apart : pans.pan;
    }

    public int fits(int what) throws IllegalArgumentException {
        demand(what == 0 || what == 1);
        lines.seekPairs(now);
        return what == 0 ? lines.pairs : lines.firstPair();
    }

    public int look(int what) throws IllegalArgumentException {
        demand(what == 0 || what == 1);
        lines.seekNext(now);
        return what == 0 ? lines.nextTwo : lines.leftAtWorst;
    }

    public int falsely(int n) throws IllegalArgumentException {
        demand(n >= 1 && n <= 9999);
        if (n < 3) {
            return NONE;
        }
        int power = 9;
        int weighings = 2;
        while (weighings < 20 && (power - 3) / 2 < n) {
            power *= 3;
            weighings++;
        }
        return weighings;
    }

    public int sellers(int v, int w, int what) throws IllegalArgumentException {
        demand(v >= 0 && v <= 99 && w >= 0 && w <= 99);
        demand(what >= 0 && what <= 2);
        int rests = 0;
        int first = NONE;
        int together = 0;
        for (int way = 0; way < 4; way++) {
            int one = way >> 1;
            int other = way & 1;
            if (isRest(v, w, one, other)) {
                rests++;
                if (first == NONE) {
                    first = 10 * one + other;
                    together = gain(v, w, one, other) + gain(v, w, other, one);
                }
            }
        }
        return what == 0 ? rests : what == 1 ? first : together;
    }

    public long even(int n, int q, int part) throws IllegalArgumentException {
        demand(n >= 0 && n <= 12 && q >= 0 && q <= 16);
        demand(isPart(part));
        long up = n % 2 == 0 ? 1 : 0;
        long down = 1;
        for (int i = 1; i <= n / 2; i++) {
            up = up * (n / 2 + i) / i * q * (16 - q);
        }
        for (int i = 0; i < n; i++) {
            down *= 16;
        }
        return (part == 0 ? up : down) / commonMeasure(up, down);
    }

    public int share(int thing, int things, int n) throws NoSuchElementException, IllegalArgumentException {
        demandThing(thing);
        demandBits(things);
        demand(n >= 0 && n <= 999);
        if ((things >> thing & 1) == 0) {
            return 0;
        }
        return Math.min(now.weightOf(thing), pans.shareBound(now, things, n));
    }

    public int heaviest(int what) throws IllegalArgumentException {
        demand(what == 0 || what == 1);
        int heaviest = now.heaviestThing();
        return what == 0 || heaviest == NONE ? heaviest : now.weightOf(heaviest);
    }

    public int above(int thing) throws NoSuchElementException {
        demandThing(thing);
        int bits = 0;
        for (int other = 0; other < now.things; other++) {
            if (other != thing) {
                chains.seekChain(now, other, thing);
                bits |= chains.isOneOrMore() ? 1 << other : 0;
            }
        }
        return bits;
    }

    public int alike(int what) throws IllegalArgumentException {
        demand(what == 0 || what == 1);
        int pairs = 0;
        int first = NONE;
        for (int a = 0; a < now.things; a++) {
            for (int b = a + 1; b < now.things; b++) {
                if (now.weightOf(a) == now.weightOf(b)) {
                    first = pairs == 0 ? 10 * a + b : first;
                    pairs++;
                }
            }
        }
        return what == 0 ? pairs : first;
    }

    public int against(int thing, int other) throws NoSuchElementException {
        demandThing(thing);
        demandThing(other);
        for (int n = 1; n <= MAX_TIMES; n++) {
            if (now.weightOf(thing) * n >= now.weightOf(other)) {
                return n;
            }
        }
        return NONE;
    }

    public int fair(int seed, int days, int q, int what) throws IllegalArgumentException {
        demand(isFair(days, q) && what >= 0 && what <= 3);
        fairs.hold(now, rule, seed, days, q);
        switch (what) {
            case 0: return fairs.end.weightOfAll();
            case 1: return fairs.end.cries;
            case 2: return fairs.end.weighings - now.weighings;
            default: return fairs.end.criesNotSo();
        }
    }

    public int span(int seed, int many, int days, int q, int what, int thing) throws IllegalArgumentException {
        demand(isFair(days, q) && many >= 1 && many <= 20);
        demand(what >= 0 && what <= 2 && now.isThing(thing));
        int least = 0;
        int most = 0;
        int cried = 0;
        for (int i = 0; i < many; i++) {
            fairs.hold(now, rule, seed + i, days, q);
            int all = fairs.end.weightOfAll();
            least = i == 0 || all < least ? all : least;
            most = i == 0 || all > most ? all : most;
            cried += fairs.end.criesWith(thing) != 0 ? 1 : 0;
        }
        return what == 0 ? least : what == 1 ? most : cried;
    }

    public int image() {
        if (past.images >= MAX_IMAGES) {
            return -1;
        }
        past.takeImage(now);
        return past.images;
    }

    public int restore() {
        if (past.images <= 0) {
            return -1;
        }
        past.goBackToImage(now);
        refusedSteps = 0;
        return past.images;
    }

    public int status(int what) {
        switch (what) {
            case 0: return noSuchCalls;
            case 1: return illegalCalls;
            default: return NONE;
        }
    }

    public int count(int what) {
        switch (what) {
            case 0: return past.images;
            case 1: return text.held;
            case 2: return past.works;
            default: return NONE;
        }
    }

    private void demand(boolean fine) {
        if (!fine) {
            illegalCalls++;
            throw new IllegalArgumentException("an argument is none such");
        }
    }

    private void demandPresent(boolean present) {
        if (!present) {
            noSuchCalls++;
            throw new NoSuchElementException("there is none such");
        }
    }

    private void demandThing(int thing) {
        demandPresent(now.isThing(thing));
    }

    private void demandBits(int things) {
        demand(things >= 0 && things < 1 << now.things);
    }

    private static boolean isPart(int part) {
        return part == 0 || part == 1;
    }

    private static boolean isFair(int days, int q) {
        return days >= 1 && days <= 96 && q >= 0 && q <= 16;
    }

    /** What a seller has who does the one thing (1 fat), while the other one does the other. */
    private static int gain(int v, int w, int own, int others) {
        if (own == 0) {
            return others == 0 ? v : 0;
        }
        return others == 0 ? w : -1;
    }

    private static boolean isRest(int v, int w, int one, int other) {
        return gain(v, w, one, other) >= gain(v, w, 1 - one, other)
            && gain(v, w, other, one) >= gain(v, w, 1 - other, one);
    }

    /** The greatest number that measures both; 1 at least, so that it can always divide. */
    private static long commonMeasure(long a, long b) {
        long greater = a;
        long lesser = b;
        for (int i = 0; i < 200 && lesser != 0; i++) {
            long left = greater % lesser;
            greater = lesser;
            lesser = left;
        }
        return greater > 1 ? greater : 1;
    }

    /** The tape, and a reader that goes once over its first bytes, from the left. */
    private static final class Text {
        static final int END = -1;
        static final int FAR_TOO_GREAT = 1000000;

        final byte[] bytes = new byte[TAPE_BYTES];
        int held;
        int length;
        int at;
        int mark;
        int value;
        int faultKind;
        int faultPlace = NONE;

        void put(int four) {
            for (int shift = 24; shift >= 0; shift -= 8) {
                if (held >= 0 && held < bytes.length) {
                    bytes[held] = (byte) (four >> shift);
                    held++;
                }
            }
        }

        /** Takes the first n bytes as the text to be read; the tape is empty from then on. */
        void open(int n) {
            length = n;
            held = 0;
            at = 0;
            mark = 0;
            faultKind = 0;
            faultPlace = NONE;
        }

        boolean fail(int kind, int place) {
            faultKind = kind;
            faultPlace = place;
            return false;
        }

        /** The next byte that is no blank, its place being the mark; END behind the last. */
        int peek() {
            while (at < length && at < bytes.length && bytes[at] == ' ') {
                at++;
            }
            mark = at;
            return at < length && at < bytes.length ? bytes[at] & 255 : END;
        }

        boolean hasMore() {
            return peek() != END;
        }

        boolean takeSign(int sign) {
            if (peek() != sign) {
                return fail(CANNOT_STAND, mark);
            }
            at++;
            return true;
        }

        boolean takeNumber(int least, int most) {
            if (!isDigit(peek())) {
                return fail(CANNOT_STAND, mark);
            }
            value = 0;
            while (at < length && isDigit(byteAt(at))) {
                value = Math.min(value * 10 + byteAt(at) - '0', FAR_TOO_GREAT);
                at++;
            }
            return value >= least && value <= most || fail(NO_SUCH_NUMBER, mark);
        }

        /** The second thing of two that must not be one. */
        boolean takeOther(int things, int first) {
            return takeNumber(0, things - 1) && (value != first || fail(NO_SUCH_NUMBER, mark));
        }

        boolean takeWord() {
            peek();
            while (at < length && isLetter(byteAt(at))) {
                at++;
            }
            return at > mark || fail(CANNOT_STAND, mark);
        }

        boolean wordIs(String word) {
            if (at - mark != word.length()) {
                return false;
            }
            for (int i = 0; i < word.length(); i++) {
                if (byteAt(mark + i) != word.charAt(i)) {
                    return false;
                }
            }
            return true;
        }

        private int byteAt(int place) {
            return place >= 0 && place < length && place < bytes.length ? bytes[place] & 255 : END;
        }

        private static boolean isDigit(int sign) {
            return sign >= '0' && sign <= '9';
        }

        private static boolean isLetter(int sign) {
            return sign >= 'a' && sign <= 'z';
        }
    }

    /** The market at one time: what was told and all that work changes. */
    private static final class State {
        static final int PART_A = 0;
        static final int PART_N = 1;
        static final int PART_B = 2;
        static final int PART_M = 3;
        static final int PARTS = 4;
        /** Ints by which all that work changes is kept. */
        static final int ROW = 2 * MAX_THINGS + PARTS * MAX_CRIES + 4;

        final int[] told = new int[MAX_THINGS];
        final int[] weight = new int[MAX_THINGS];
        final int[] weighed = new int[MAX_THINGS];
        final int[] wear = new int[MAX_THINGS];
        final int[] cryParts = new int[PARTS * MAX_CRIES];
        int things;
        int cries;
        int lean = LEVEL_LEAN;
        int play;
        int day;
        int weighings;

        void becomeEmpty() {
            Arrays.fill(told, 0);
            Arrays.fill(weight, 0);
            Arrays.fill(weighed, 0);
            things = 0;
            cries = 0;
            lean = LEVEL_LEAN;
            play = 0;
            day = 0;
            weighings = 0;
        }

        void copyFrom(State other) {
            System.arraycopy(other.told, 0, told, 0, MAX_THINGS);
            System.arraycopy(other.weight, 0, weight, 0, MAX_THINGS);
            System.arraycopy(other.weighed, 0, weighed, 0, MAX_THINGS);
            System.arraycopy(other.cryParts, 0, cryParts, 0, PARTS * MAX_CRIES);
            things = other.things;
            cries = other.cries;
            lean = other.lean;
            play = other.play;
            day = other.day;
            weighings = other.weighings;
        }

        void write(int[] rows, int at) {
            if (at < 0 || at > rows.length - ROW) {
                return;
            }
            System.arraycopy(weight, 0, rows, at, MAX_THINGS);
            System.arraycopy(weighed, 0, rows, at + MAX_THINGS, MAX_THINGS);
            System.arraycopy(cryParts, 0, rows, at + 2 * MAX_THINGS, PARTS * MAX_CRIES);
            rows[at + ROW - 4] = cries;
            rows[at + ROW - 3] = lean;
            rows[at + ROW - 2] = day;
            rows[at + ROW - 1] = weighings;
        }

        void read(int[] rows, int at) {
            if (at < 0 || at > rows.length - ROW) {
                return;
            }
            System.arraycopy(rows, at, weight, 0, MAX_THINGS);
            System.arraycopy(rows, at + MAX_THINGS, weighed, 0, MAX_THINGS);
            System.arraycopy(rows, at + 2 * MAX_THINGS, cryParts, 0, PARTS * MAX_CRIES);
            cries = rows[at + ROW - 4];
            lean = rows[at + ROW - 3];
            day = rows[at + ROW - 2];
            weighings = rows[at + ROW - 1];
        }

        boolean readFrom(Text text) {
            becomeEmpty();
            for (int clauses = 0; clauses <= MAX_CLAUSES && text.hasMore(); clauses++) {
                if (!readClause(text, clauses) || !text.takeSign(';')) {
                    return false;
                }
            }
            return true;
        }

        private boolean readClause(Text text, int clauses) {
            if (!text.takeWord()) {
                return false;
            }
            boolean tooMany = clauses >= MAX_CLAUSES;
            if (text.wordIs("thing")) {
                return tooMany || things >= MAX_THINGS ? text.fail(TOO_MANY, text.mark) : readThing(text);
            }
            if (text.wordIs("cry")) {
                return tooMany || cries >= MAX_CRIES ? text.fail(TOO_MANY, text.mark) : readCry(text);
            }
            if (text.wordIs("beam")) {
                return tooMany ? text.fail(TOO_MANY, text.mark) : readBeam(text);
            }
            return text.fail(CANNOT_STAND, text.mark);
        }

        private boolean readThing(Text text) {
            if (!text.takeNumber(1, MAX_WEIGHT) || things >= MAX_THINGS) {
                return false;
            }
            told[things] = text.value;
            weight[things] = text.value;
            things++;
            return true;
        }

        private boolean readCry(Text text) {
            if (!text.takeNumber(0, things - 1)) {
                return false;
            }
            int a = text.value;
            if (!text.takeNumber(1, MAX_TIMES)) {
                return false;
            }
            int n = text.value;
            if (!text.takeOther(things, a)) {
                return false;
            }
            int b = text.value;
            if (!text.takeNumber(1, MAX_TIMES)) {
                return false;
            }
            addCry(a, n, b, text.value);
            return true;
        }

        private boolean readBeam(Text text) {
            if (!text.takeNumber(0, MAX_LEAN)) {
                return false;
            }
            lean = text.value;
            if (!text.takeNumber(0, MAX_PLAY)) {
                return false;
            }
            play = text.value;
            return true;
        }

        boolean isThing(int thing) {
            return thing >= 0 && thing < things && thing < MAX_THINGS;
        }

        int weightOf(int thing) {
            return isThing(thing) ? weight[thing] : 0;
        }

        int toldOf(int thing) {
            return isThing(thing) ? told[thing] : 0;
        }

        int weighedOf(int thing) {
            return isThing(thing) ? weighed[thing] : 0;
        }

        int cryPart(int cry, int part) {
            boolean there = cry >= 0 && cry < cries && cry < MAX_CRIES && part >= 0 && part < PARTS;
            return there ? cryParts[PARTS * cry + part] : 0;
        }

        int weightOfAll() {
            int sum = 0;
            for (int i = 0; i < things; i++) {
                sum += weightOf(i);
            }
            return sum;
        }

        int heaviestThing() {
            int heaviest = NONE;
            for (int i = 0; i < things; i++) {
                if (heaviest == NONE || weightOf(i) > weightOf(heaviest)) {
                    heaviest = i;
                }
            }
            return heaviest;
        }

        int criesNotSo() {
            int bits = 0;
            for (int c = 0; c < cries; c++) {
                int left = weightOf(cryPart(c, PART_A)) * cryPart(c, PART_N);
                int right = weightOf(cryPart(c, PART_B)) * cryPart(c, PART_M);
                bits |= left < right ? 1 << c : 0;
            }
            return bits;
        }

        int thingsCried() {
            int bits = 0;
            for (int c = 0; c < cries; c++) {
                bits |= 1 << cryPart(c, PART_A) | 1 << cryPart(c, PART_B);
            }
            return bits;
        }

        int criesWith(int thing) {
            int bits = 0;
            for (int c = 0; c < cries && c < MAX_CRIES; c++) {
                if (cryParts[PARTS * c + PART_A] == thing || cryParts[PARTS * c + PART_B] == thing) {
                    bits |= 1 << c;
                }
            }
            return bits;
        }

        int wearOf(int thing, Law rule) {
            int cried = Integer.bitCount(criesWith(thing));
            return rule.wear(weightOf(thing), weighedOf(thing), cried, thing, day, lean, play);
        }

        int standingOf(int a, int n, int b, int m) {
            return standing(weightOf(a) * n, weightOf(b) * m, lean, play);
        }

        static int standing(int left, int right, int lean, int play) {
            int more = left + lean - LEVEL_LEAN - right;
            return more > play ? LEFT_DOWN : -more > play ? RIGHT_DOWN : LEVEL;
        }

        boolean weigh(int a, int n, int b, int m) {
            if (!isThing(a) || !isThing(b) || a == b || cries >= MAX_CRIES) {
                return false;
            }
            int way = standingOf(a, n, b, m);
            if (way == LEFT_DOWN && !addNewCry(a, n, b, m) || way == RIGHT_DOWN && !addNewCry(b, m, a, n)) {
                return false;
            }
            weighed[a]++;
            weighed[b]++;
            weighings++;
            return true;
        }

        private boolean addNewCry(int a, int n, int b, int m) {
            for (int c = 0; c < cries; c++) {
                if (cryPart(c, PART_A) == a && cryPart(c, PART_N) == n
                        && cryPart(c, PART_B) == b && cryPart(c, PART_M) == m) {
                    return false;
                }
            }
            addCry(a, n, b, m);
            return true;
        }

        private void addCry(int a, int n, int b, int m) {
            if (cries < 0 || cries >= MAX_CRIES) {
                return;
            }
            cryParts[PARTS * cries + PART_A] = a;
            cryParts[PARTS * cries + PART_N] = n;
            cryParts[PARTS * cries + PART_B] = b;
            cryParts[PARTS * cries + PART_M] = m;
            cries++;
        }

        boolean tip(int cry) {
            if (cry < 0 || cry >= cries || cries > MAX_CRIES) {
                return false;
            }
            System.arraycopy(cryParts, PARTS * (cry + 1), cryParts, PARTS * cry, PARTS * (cries - cry - 1));
            cries--;
            return true;
        }

        boolean fatten(int thing, int more) {
            if (!isThing(thing) || weight[thing] >= MAX_WEIGHT) {
                return false;
            }
            weight[thing] = Math.min(weight[thing] + more, MAX_WEIGHT);
            return true;
        }

        boolean turnBeam() {
            if (lean == LEVEL_LEAN) {
                return false;
            }
            lean = MAX_LEAN - lean;
            return true;
        }

        /** All wear is told before any thing gets lighter: it is that of the day's beginning. */
        boolean passDay(Law rule) {
            for (int i = 0; i < things && i < MAX_THINGS; i++) {
                wear[i] = wearOf(i, rule);
            }
            for (int i = 0; i < things && i < MAX_THINGS; i++) {
                weight[i] = Math.max(weight[i] - wear[i], 1);
            }
            day++;
            return true;
        }
    }

    /** How a thing wears, as a row of marks for a stack of values: operands first. */
    private static final class Law {
        static final int PUSH_NUMBER = 0;
        static final int PUSH_NAME = 1;
        static final int PLUS = 2;
        static final int MINUS = 3;
        static final int TIMES = 4;
        static final int BY = 5;
        static final int REST = 6;
        static final int LEAST = 7;
        static final int MOST = 8;
        static final int WEIGHED = 1;
        static final int NAMES = 7;
        /** Six may be open, and each keeps three values at most while the next is reckoned. */
        static final int DEEPEST = 3 * (MAX_OPEN + 2);

        final int[] marks = new int[LAW_BYTES];
        final int[] operands = new int[LAW_BYTES];
        final int[] values = new int[NAMES];
        final int[] stack = new int[DEEPEST];
        int size;

        Law() {
            becomeUsual();
        }

        void becomeUsual() {
            size = 0;
            add(PUSH_NAME, WEIGHED);
            add(PUSH_NUMBER, 4);
            add(BY, 0);
        }

        private void add(int mark, int operand) {
            if (size >= 0 && size < LAW_BYTES) {
                marks[size] = mark;
                operands[size] = operand;
                size++;
            }
        }

        int wear(int weight, int weighed, int cried, int thing, int day, int lean, int play) {
            values[0] = weight;
            values[WEIGHED] = weighed;
            values[2] = cried;
            values[3] = thing;
            values[4] = day;
            values[5] = lean;
            values[6] = play;
            int top = 0;
            for (int i = 0; i < size && i < LAW_BYTES; i++) {
                int operand = operands[i];
                if (marks[i] == PUSH_NUMBER && top < DEEPEST) {
                    stack[top] = operand;
                    top++;
                } else if (marks[i] == PUSH_NAME && top < DEEPEST && operand >= 0 && operand < NAMES) {
                    stack[top] = values[operand];
                    top++;
                } else if (top >= 2) {
                    top--;
                    stack[top - 1] = joined(marks[i], stack[top - 1], stack[top]);
                }
            }
            int worn = top > 0 ? stack[0] : 0;
            return worn < 0 ? 0 : worn > MAX_WEAR ? MAX_WEAR : worn;
        }

        private static int joined(int mark, int a, int b) {
            switch (mark) {
                case PLUS: return a + b;
                case MINUS: return a - b;
                case TIMES: return a * b;
                case BY: return b == 0 ? 0 : a / b;
                case REST: return b == 0 ? 0 : a % b;
                case LEAST: return a < b ? a : b;
                default: return a > b ? a : b;
            }
        }

        boolean readFrom(Text text) {
            size = 0;
            return readSum(text, 0) && (!text.hasMore() || text.fail(CANNOT_STAND, text.mark));
        }

        private boolean readSum(Text text, int open) {
            if (!readProduct(text, open)) {
                return false;
            }
            for (int i = 0; i < LAW_BYTES && sumMark(text.peek()) >= 0; i++) {
                int mark = sumMark(text.peek());
                text.at++;
                if (!readProduct(text, open)) {
                    return false;
                }
                add(mark, 0);
            }
            return true;
        }

        private boolean readProduct(Text text, int open) {
            if (!readUnit(text, open)) {
                return false;
            }
            for (int i = 0; i < LAW_BYTES && productMark(text.peek()) >= 0; i++) {
                int mark = productMark(text.peek());
                text.at++;
                if (!readUnit(text, open)) {
                    return false;
                }
                add(mark, 0);
            }
            return true;
        }

        private static int sumMark(int sign) {
            return sign == '+' ? PLUS : sign == '-' ? MINUS : NONE;
        }

        private static int productMark(int sign) {
            return sign == '*' ? TIMES : sign == '/' ? BY : sign == '%' ? REST : NONE;
        }

        private boolean readUnit(Text text, int open) {
            int sign = text.peek();
            if (sign == '(') {
                return readBraced(text, open);
            }
            if (sign >= '0' && sign <= '9') {
                if (!text.takeNumber(0, 999)) {
                    return false;
                }
                add(PUSH_NUMBER, text.value);
                return true;
            }
            if (!text.takeWord()) {
                return false;
            }
            if (text.wordIs("least")) {
                return readPair(text, open, LEAST);
            }
            if (text.wordIs("most")) {
                return readPair(text, open, MOST);
            }
            int name = nameOf(text);
            if (name < 0) {
                return text.fail(CANNOT_STAND, text.mark);
            }
            add(PUSH_NAME, name);
            return true;
        }

        private static int nameOf(Text text) {
            return text.wordIs("weight") ? 0
                : text.wordIs("weighed") ? WEIGHED
                : text.wordIs("cried") ? 2
                : text.wordIs("thing") ? 3
                : text.wordIs("day") ? 4
                : text.wordIs("lean") ? 5
                : text.wordIs("play") ? 6
                : NONE;
        }

        private boolean readBraced(Text text, int open) {
            if (open >= MAX_OPEN) {
                return text.fail(TOO_MANY, text.mark);
            }
            return text.takeSign('(') && readSum(text, open + 1) && text.takeSign(')');
        }

        private boolean readPair(Text text, int open, int mark) {
            if (open >= MAX_OPEN) {
                return text.fail(TOO_MANY, text.mark);
            }
            boolean read = text.takeSign('[') && readSum(text, open + 1) && text.takeSign(',')
                && readSum(text, open + 1) && text.takeSign(']');
            if (read) {
                add(mark, 0);
            }
            return read;
        }
    }

    /** Steps, read as a whole before any is done. */
    private static final class Work {
        static final int WEIGH = 0;
        static final int TIP = 1;
        static final int FEED = 2;
        static final int TURN = 3;
        static final int DAY = 4;
        static final int AGAIN = 5;
        static final int PARTS = 5;
        /** No step is told in fewer than four bytes. */
        static final int MAX_STEPS = WORK_BYTES / 4 + 1;

        final int[] parts = new int[PARTS * MAX_STEPS];
        int size;
        int begun;
        int done;
        int refused;

        boolean readFrom(Text text, int things) {
            size = 0;
            return readSteps(text, things, 0);
        }

        private boolean readSteps(Text text, int things, int open) {
            for (int i = 0; i < MAX_STEPS && text.hasMore(); i++) {
                if (open > 0 && text.peek() == ']') {
                    return true;
                }
                if (!readStep(text, things, open) || !text.takeSign(';')) {
                    return false;
                }
            }
            return true;
        }

        private boolean readStep(Text text, int things, int open) {
            if (!text.takeWord()) {
                return false;
            }
            int step = size;
            if (text.wordIs("weigh")) {
                return add(WEIGH) && readWeigh(text, things, step);
            }
            if (text.wordIs("tip")) {
                return add(TIP) && readPart(text, 0, MAX_CRIES - 1, step, 1);
            }
            if (text.wordIs("feed")) {
                return add(FEED) && readPart(text, 0, things - 1, step, 1) && readPart(text, 1, MAX_FED, step, 2);
            }
            if (text.wordIs("turn")) {
                return add(TURN);
            }
            if (text.wordIs("day")) {
                return add(DAY);
            }
            if (!text.wordIs("again")) {
                return text.fail(CANNOT_STAND, text.mark);
            }
            return open >= MAX_OPEN ? text.fail(TOO_MANY, text.mark) : add(AGAIN) && readAgain(text, things, open, step);
        }

        private boolean readWeigh(Text text, int things, int step) {
            if (!readPart(text, 0, things - 1, step, 1) || !readPart(text, 1, MAX_TIMES, step, 2)
                    || !text.takeOther(things, part(step, 1))) {
                return false;
            }
            put(step, 3, text.value);
            return readPart(text, 1, MAX_TIMES, step, 4);
        }

        private boolean readAgain(Text text, int things, int open, int step) {
            boolean read = readPart(text, 0, MAX_ROUNDS, step, 1) && text.takeSign('[')
                && readSteps(text, things, open + 1) && text.takeSign(']');
            put(step, 2, size);
            return read;
        }

        private boolean readPart(Text text, int least, int most, int step, int part) {
            if (!text.takeNumber(least, most)) {
                return false;
            }
            put(step, part, text.value);
            return true;
        }

        private boolean add(int kind) {
            if (size >= MAX_STEPS) {
                return false;
            }
            put(size, 0, kind);
            size++;
            return true;
        }

        private void put(int step, int part, int value) {
            if (step >= 0 && step < MAX_STEPS && part >= 0 && part < PARTS) {
                parts[PARTS * step + part] = value;
            }
        }

        private int part(int step, int part) {
            boolean there = step >= 0 && step < MAX_STEPS && part >= 0 && part < PARTS;
            return there ? parts[PARTS * step + part] : 0;
        }

        void doAll(State state, Law rule) {
            begun = 0;
            done = 0;
            refused = 0;
            doSteps(state, rule, 0, size, 0);
        }

        private void doSteps(State state, Law rule, int from, int to, int open) {
            int step = from;
            for (int i = 0; i < MAX_STEPS && step < to && begun < MAX_BEGUN; i++) {
                begun++;
                if (part(step, 0) == AGAIN) {
                    int behind = part(step, 2);
                    for (int round = 0; round < part(step, 1) && begun < MAX_BEGUN && open < MAX_OPEN; round++) {
                        doSteps(state, rule, step + 1, behind, open + 1);
                    }
                    step = behind;
                } else {
                    boolean could = doStep(state, rule, step);
                    done += could ? 1 : 0;
                    refused += could ? 0 : 1;
                    step++;
                }
            }
        }

        private boolean doStep(State state, Law rule, int step) {
            switch (part(step, 0)) {
                case WEIGH: return state.weigh(part(step, 1), part(step, 2), part(step, 3), part(step, 4));
                case TIP: return state.tip(part(step, 1));
                case FEED: return state.fatten(part(step, 1), part(step, 2));
                case TURN: return state.turnBeam();
                default: return state.day < LAST_DAY && state.passDay(rule);
            }
        }
    }

    /** What was written of how the beam stood, and what it tells of lean and play. */
    private static final class Book {
        static final int PLAYS = MAX_PLAY + 1;
        static final int PAIRS = (MAX_LEAN + 1) * PLAYS;

        final int[] left = new int[MAX_LINES];
        final int[] right = new int[MAX_LINES];
        final int[] stood = new int[MAX_LINES];
        final boolean[] fitting = new boolean[PAIRS];
        final int[] leftBy = new int[RIGHT_DOWN + 1];
        int size;
        int pairs;
        int nextTwo;
        int leftAtWorst;

        boolean readFrom(Text text, int things) {
            size = 0;
            for (int i = 0; i <= MAX_LINES && text.hasMore(); i++) {
                if (!readLine(text, things) || !text.takeSign(';')) {
                    return false;
                }
            }
            return true;
        }

        private boolean readLine(Text text, int things) {
            if (!text.takeNumber(0, things - 1)) {
                return false;
            }
            if (size >= MAX_LINES) {
                return text.fail(TOO_MANY, text.mark);
            }
            left[size] = text.value;
            if (!text.takeOther(things, left[size])) {
                return false;
            }
            right[size] = text.value;
            if (!text.takeNumber(LEVEL, RIGHT_DOWN)) {
                return false;
            }
            stood[size] = text.value;
            size++;
            return true;
        }

        void seekPairs(State state) {
            pairs = 0;
            for (int i = 0; i < PAIRS; i++) {
                fitting[i] = isFitting(state, i);
                pairs += fitting[i] ? 1 : 0;
            }
        }

        private boolean isFitting(State state, int pair) {
            for (int i = 0; i < size && i < MAX_LINES; i++) {
                if (standingBy(state, left[i], right[i], pair) != stood[i]) {
                    return false;
                }
            }
            return true;
        }

        private static int standingBy(State state, int a, int b, int pair) {
            return State.standing(state.weightOf(a), state.weightOf(b), pair / PLAYS, pair % PLAYS);
        }

        /** Ten times the lean, and the play, is just the pair's own number. */
        int firstPair() {
            for (int i = 0; i < PAIRS; i++) {
                if (fitting[i]) {
                    return i;
                }
            }
            return NONE;
        }

        void seekNext(State state) {
            seekPairs(state);
            nextTwo = NONE;
            leftAtWorst = NONE;
            for (int a = 0; a < state.things; a++) {
                for (int b = a + 1; b < state.things; b++) {
                    int worst = worstOf(state, a, b);
                    if (nextTwo == NONE || worst < leftAtWorst) {
                        nextTwo = 10 * a + b;
                        leftAtWorst = worst;
                    }
                }
            }
        }

        private int worstOf(State state, int a, int b) {
            Arrays.fill(leftBy, 0);
            for (int i = 0; i < PAIRS; i++) {
                int way = standingBy(state, a, b, i);
                if (fitting[i] && way >= LEVEL && way <= RIGHT_DOWN) {
                    leftBy[way]++;
                }
            }
            return Math.max(leftBy[LEVEL], Math.max(leftBy[LEFT_DOWN], leftBy[RIGHT_DOWN]));
        }
    }

    /** Works that can be undone, each as the market stood ahead of it, and images with theirs. */
    private static final class Past {
        static final int WORK_INTS = MAX_WORKS * State.ROW;
        static final int IMAGE_INTS = WORK_INTS + State.ROW;

        final int[] workRows = new int[WORK_INTS];
        final int[] imageRows = new int[MAX_IMAGES * IMAGE_INTS];
        final int[] imageWorks = new int[MAX_IMAGES];
        int works;
        int images;

        void forget() {
            works = 0;
            images = 0;
        }

        void keep(State state) {
            if (works >= 0 && works < MAX_WORKS) {
                state.write(workRows, works * State.ROW);
                works++;
            }
        }

        void takeBack(State state) {
            if (works > 0 && works <= MAX_WORKS) {
                works--;
                state.read(workRows, works * State.ROW);
            }
        }

        void takeImage(State state) {
            if (images >= 0 && images < MAX_IMAGES) {
                System.arraycopy(workRows, 0, imageRows, images * IMAGE_INTS, WORK_INTS);
                state.write(imageRows, images * IMAGE_INTS + WORK_INTS);
                imageWorks[images] = works;
                images++;
            }
        }

        void goBackToImage(State state) {
            if (images > 0 && images <= MAX_IMAGES) {
                images--;
                System.arraycopy(imageRows, images * IMAGE_INTS, workRows, 0, WORK_INTS);
                state.read(imageRows, images * IMAGE_INTS + WORK_INTS);
                works = imageWorks[images];
            }
        }
    }

    /** A walk over the cries: the greatest worth on the way to a goal, and the fat rings met. */
    private static final class Chains {
        final int[] fatRings = new int[1 << MAX_CRIES];
        int fatCount;
        int shortestFat;
        int goal;
        long bestUp;
        long bestDown;

        void seekChain(State state, int from, int to) {
            begin();
            goal = to;
            walk(state, from, 1 << from, 0, 1, 1);
        }

        /** Each ring is met once: from the least of its things. */
        void seekRings(State state) {
            begin();
            for (int i = 0; i < state.things; i++) {
                goal = i;
                walk(state, i, (2 << i) - 1, 0, 1, 1);
            }
        }

        private void begin() {
            fatCount = 0;
            shortestFat = NONE;
            bestUp = 0;
            bestDown = 1;
        }

        /** What is seen grows by one thing a level, so that no more than eight stand open. */
        private void walk(State state, int at, int seen, int used, long up, long down) {
            for (int c = 0; c < state.cries; c++) {
                int next = state.cryPart(c, State.PART_B);
                if (state.cryPart(c, State.PART_A) != at) {
                    continue;
                }
                int usedNow = used | 1 << c;
                long upNow = up * state.cryPart(c, State.PART_M);
                long downNow = down * state.cryPart(c, State.PART_N);
                if (next == goal) {
                    arrive(usedNow, upNow, downNow);
                } else if ((seen >> next & 1) == 0) {
                    walk(state, next, seen | 1 << next, usedNow, upNow, downNow);
                }
            }
        }

        private void arrive(int used, long up, long down) {
            if (up * bestDown > bestUp * down) {
                bestUp = up;
                bestDown = down;
            }
            if (up > down && fatCount < fatRings.length) {
                fatRings[fatCount] = used;
                fatCount++;
                int length = Integer.bitCount(used);
                shortestFat = shortestFat == NONE ? length : Math.min(shortestFat, length);
            }
        }

        /** The greatest worth in least terms: what stands above (part 0) or below. */
        long bestPart(int part) {
            return (part == 0 ? bestUp : bestDown) / commonMeasure(bestUp, bestDown);
        }

        boolean isOneOrMore() {
            return bestUp >= bestDown;
        }

        int fewestGone(int cries) {
            int best = (1 << cries) - 1;
            for (int gone = 0; gone < 1 << cries; gone++) {
                if (Integer.bitCount(gone) < Integer.bitCount(best) && breaksAll(gone)) {
                    best = gone;
                }
            }
            return best;
        }

        private boolean breaksAll(int gone) {
            for (int i = 0; i < fatCount && i < fatRings.length; i++) {
                if ((fatRings[i] & gone) == 0) {
                    return false;
                }
            }
            return true;
        }
    }

    /** Things on two pans: what they match, how level they lie, what is shared by them. */
    private static final class Pans {
        final int[] sums = new int[1 << MAX_THINGS];
        final boolean[] matched = new boolean[MAX_THINGS * MAX_WEIGHT + 1];
        int apart;
        int pan;

        private void addUp(State state) {
            for (int i = 0; i < state.things && i < MAX_THINGS; i++) {
                for (int bits = 0; bits < 1 << i; bits++) {
                    sums[bits | 1 << i] = sums[bits] + state.weightOf(i);
                }
            }
        }

        private int sumOf(int bits) {
            return bits >= 0 && bits < sums.length ? sums[bits] : 0;
        }

        void seekAmounts(State state, int things) {
            addUp(state);
            for (int i = 0; i < matched.length; i++) {
                matched[i] = false;
            }
            for (int used = things; used > 0; used = (used - 1) & things) {
                for (int left = used; left > 0; left = (left - 1) & used) {
                    int amount = 2 * sumOf(left) - sumOf(used);
                    if (amount > 0 && amount < matched.length) {
                        matched[amount] = true;
                    }
                }
            }
        }

        int amounts() {
            int many = 0;
            for (int i = 1; i < matched.length; i++) {
                many += matched[i] ? 1 : 0;
            }
            return many;
        }

        int gap() {
            for (int i = 1; i < matched.length; i++) {
                if (!matched[i]) {
                    return i;
                }
            }
            return matched.length;
        }

        int fewestFor(State state, int n) {
            addUp(state);
            int best = NONE;
            for (int used = 1; used < 1 << state.things; used++) {
                boolean fewer = best == NONE || Integer.bitCount(used) < Integer.bitCount(best);
                if (fewer && makes(used, n)) {
                    best = used;
                }
            }
            return best;
        }

        private boolean makes(int used, int n) {
            for (int left = used; left > 0; left = (left - 1) & used) {
                if (2 * sumOf(left) - sumOf(used) == n) {
                    return true;
                }
            }
            return false;
        }

        void layLevel(State state, int things) {
            addUp(state);
            apart = 0;
            pan = 0;
            int least = things & -things;
            for (int laid = things; laid > 0; laid = (laid - 1) & things) {
                int difference = Math.abs(2 * sumOf(laid) - sumOf(things));
                // Pans come with falling bits: of alike ones the last is that of least bits.
                if ((laid & least) != 0 && (pan == 0 || difference <= apart)) {
                    apart = difference;
                    pan = laid;
                }
            }
        }

        int shareBound(State state, int things, int n) {
            int bound = 0;
            for (int i = 1; i <= MAX_WEIGHT; i++) {
                bound = givenBy(state, things, i) <= n ? i : bound;
            }
            return bound;
        }

        private static int givenBy(State state, int things, int bound) {
            int given = 0;
            for (int i = 0; i < state.things; i++) {
                given += (things >> i & 1) != 0 ? Math.min(state.weightOf(i), bound) : 0;
            }
            return given;
        }
    }

    /** Days drawn by a seed, on a copy of the market that ends as the fair does. */
    private static final class Fair {
        final State end = new State();
        int seed;

        void hold(State from, Law rule, int firstSeed, int days, int q) {
            end.copyFrom(from);
            seed = firstSeed;
            for (int i = 0; i < days; i++) {
                if (end.things > 0) {
                    dealOnce(q);
                }
                end.passDay(rule);
            }
        }

        private void dealOnce(int q) {
            int a = draw(end.things);
            int b = draw(end.things);
            int n = draw(3) + 1;
            end.weigh(a, n, b, 1);
            if (draw(16) < q) {
                end.tip(0);
            }
        }

        private int draw(int many) {
            seed = seed * 1103515245 + 12345;
            return many > 0 ? (seed >>> 16 & 32767) % many : 0;
        }
    }
}
