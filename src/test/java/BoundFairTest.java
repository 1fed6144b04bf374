/** The bounds of promises 32 and 33: FAIRS by SEEDS. What is DRAWN is reckoned here a second time. */
public final class BoundFairTest {
    private static final String FULL = "thing 7;thing 7;" + "cry 0 1 1 1;".repeat(10);
    private static final int[] SEEDS = {0, 1, 2, 3, 77, 123456789, -1, -2, Integer.MIN_VALUE, Integer.MAX_VALUE};

    public static void main(String[] args) {
        drawn();
        weighed();
        cannotBeWeighed();
        tipped();
        cannotBeTipped();
        thenDay();
        withoutThings();
        days();
        whats();
        seeds();
        spanRange();
        spanOthers();
        spanThings();
        Check.end();
    }

    /** The value drawn by the last of so many, ahead of what is left of it. */
    private static int drawn(int seed, int draws) {
        int value = seed;
        for (int i = 0; i < draws; i++) {
            value = value * 1103515245 + 12345;
        }
        return value >>> 16 & 32767;
    }

    private static void drawn() {
        Check.says("the SEED (32 bits) becomes itself times 1,103,515,245, and 12,345 (it wraps); its bits 16 to 30, "
            + "what is left of them.");
        // With ten cries nothing can be weighed: whether one is tipped tells what was drawn as the fourth.
        for (int seed : SEEDS) {
            LeaningMarket x = Check.open(FULL);
            int fourth = drawn(seed, 4) % 16;
            Check.due("seed " + seed + ", not below " + fourth, 10, () -> x.fair(seed, 1, fourth, 1));
            Check.due("seed " + seed + ", below " + (fourth + 1), 9, () -> x.fair(seed, 1, fourth + 1, 1));
        }
    }

    private static void weighed() {
        Check.says("DRAWN by how many THINGS there are, A; DRAWN likewise, B; DRAWN by 3, N less 1: weigh A N B 1");
        boolean[] met = new boolean[12];
        for (int seed = 0; seed < 60; seed++) {
            int a = drawn(seed, 1) % 2;
            int b = drawn(seed, 2) % 2;
            int n = drawn(seed, 3) % 3 + 1;
            met[a * 6 + b * 3 + n - 1] = true;
            weighed(seed, a, n, b, 6, 6);
            weighed(seed, a, n, b, 3, 6);
            weighed(seed, a, n, b, 2, 6);
            LeaningMarket eight = Check.open("thing 1;".repeat(8));
            int same = drawn(seed, 1) % 8 == drawn(seed, 2) % 8 ? 1 : 0;
            int s = seed;
            Check.due("seed " + seed + " of eight", 1 - same, () -> eight.fair(s, 1, 0, 2));
        }
        for (int i = 0; i < met.length; i++) {
            int kind = i;
            Check.due("met by some seed: " + i, 1, () -> met[kind] ? 1 : 0);
        }
    }

    /** Two things of which the one, twice or three times, is as heavy as the other, by one day's weighing. */
    private static void weighed(int seed, int a, int n, int b, int first, int second) {
        LeaningMarket x = Check.open("thing " + first + ";thing " + second + ";");
        String label = "seed " + seed + ", " + first + " and " + second;
        int left = (a == 0 ? first : second) * n;
        int right = b == 0 ? first : second;
        Check.due(label + " weighings", a == b ? 0 : 1, () -> x.fair(seed, 1, 0, 2));
        Check.due(label + " cries", a == b || left == right ? 0 : 1, () -> x.fair(seed, 1, 0, 1));
    }

    private static void cannotBeWeighed() {
        Check.says("weigh A N B 1 (if it can be done)");
        LeaningMarket one = Check.open("thing 5;");
        Check.due("A is B", 0, () -> one.fair(3, 96, 0, 2));
        LeaningMarket full = Check.open(FULL);
        Check.due("ten are there", 0, () -> full.fair(3, 96, 0, 2));
        Check.due("ten still", 10, () -> full.fair(3, 96, 0, 1));
        // 0 on the left is cried as 0 N 1 1, on the right as 0 1 1 N: of these six two are one.
        LeaningMarket two = Check.open("thing 60;thing 1;");
        Check.law(two, "0");
        Check.due("that very cry is there", 5, () -> two.fair(3, 96, 0, 1));
        Check.due("so no more are weighed", 5, () -> two.fair(3, 96, 0, 2));
    }

    private static void tipped() {
        Check.says("DRAWN by 16 below Q: tip 0 (if it can)");
        LeaningMarket x = Check.open(FULL);
        Check.law(x, "0");
        Check.due("never by 0", 10, () -> x.fair(9, 96, 0, 1));
        LeaningMarket y = Check.open("thing 7;" + "thing 60;".repeat(7) + "cry 0 1 1 1;".repeat(10));
        Check.due("always by 16: one day", 9, () -> y.fair(9, 1, 16, 1));
        for (int seed : SEEDS) {
            Check.due("always by 16, seed " + seed, 9, () -> y.fair(seed, 1, 16, 1));
        }
        // The first is gone, which alone is not so.
        LeaningMarket z = Check.open("thing 7;thing 7;cry 0 1 1 2;" + "cry 0 1 1 1;".repeat(9));
        Check.due("the first", 0, () -> z.fair(9, 1, 16, 3));
        Check.due("not gone", 1, () -> z.fair(9, 1, 0, 3));
    }

    private static void cannotBeTipped() {
        Check.says("tip 0 (if it can); then day.");
        LeaningMarket x = Check.open("thing 7;");
        Check.due("no cry", 0, () -> x.fair(9, 96, 16, 1));
        Check.due("none is not so", 0, () -> x.fair(9, 96, 16, 3));
    }

    private static void thenDay() {
        Check.says("A FAIR by a SEED: for so many DAYS:");
        LeaningMarket x = Check.open("thing 60;");
        Check.law(x, "day");
        Check.due("one", 60, () -> x.fair(1, 1, 0, 0));
        Check.due("two", 59, () -> x.fair(1, 2, 0, 0));
        Check.due("five", 50, () -> x.fair(1, 5, 0, 0));
        Check.work(x, "day;day;");
        Check.due("from the day it is", 60 - 1 - 2 - 3, () -> x.fair(1, 2, 0, 0));
        // What is weighed counts for that very day.
        LeaningMarket y = Check.open("thing 60;thing 60;");
        Check.law(y, "weighed");
        int seed = 1;
        int once = drawn(seed, 1) % 2 == drawn(seed, 2) % 2 ? 0 : 1;
        Check.due("weighed ahead of the day", 120 - 2 * once, () -> y.fair(seed, 1, 0, 0));
    }

    private static void withoutThings() {
        Check.says("Without THINGS nothing is DRAWN, DAYS go by.");
        LeaningMarket x = new LeaningMarket();
        for (int i = 0; i <= 3; i++) {
            int what = i;
            Check.due("what " + i, 0, () -> x.fair(5, 96, 16, what));
        }
    }

    private static void days() {
        Check.says("A FAIR of so many DAYS (1 to 96), Q (0 to 16):");
        LeaningMarket x = Check.open("thing 60;");
        Check.law(x, "day%96/95");
        Check.due("95", 60, () -> x.fair(1, 95, 16, 0));
        Check.due("96", 59, () -> x.fair(1, 96, 16, 0));
        for (int days : new int[] {0, 97, -1, Integer.MIN_VALUE, Integer.MAX_VALUE}) {
            Check.due("days " + days, Check.ILLEGAL, () -> x.fair(1, days, 0, 0));
            Check.due("span of days " + days, Check.ILLEGAL, () -> x.span(1, 1, days, 0, 0, 0));
        }
        for (int q : new int[] {17, -1, Integer.MIN_VALUE, Integer.MAX_VALUE}) {
            Check.due("q " + q, Check.ILLEGAL, () -> x.fair(1, 1, q, 0));
            Check.due("span of q " + q, Check.ILLEGAL, () -> x.span(1, 1, 1, q, 0, 0));
        }
        Check.due("counted", 18, () -> x.status(1));
    }

    private static void whats() {
        Check.says("0 WEIGHTS of all together then, 1 CRIES there are then, 2 weighings in it, "
            + "3 CRIES that are not SO then (bits).");
        LeaningMarket x = Check.open("thing 60;thing 1;cry 1 1 0 1;");
        Check.law(x, "0");
        Check.work(x, "weigh 0 9 1 1;weigh 0 8 1 1;");
        int[] want = {61, 3 + 5, 5, 1};
        for (int i = 0; i <= 3; i++) {
            int what = i;
            Check.due("what " + i, want[i], () -> x.fair(3, 96, 0, what));
        }
        Check.due("weighings stay", 2, () -> x.told(10));
        for (int what : new int[] {4, -1, Integer.MIN_VALUE, Integer.MAX_VALUE}) {
            Check.due("what " + what, Check.ILLEGAL, () -> x.fair(1, 1, 0, what));
        }
        Check.due("counted", 4, () -> x.status(1));
    }

    private static void seeds() {
        Check.says("Of so many SEEDS (1 to 20; seed, seed and 1, ..):");
        String market = "thing 50;thing 40;thing 30;cry 0 1 1 1;beam 11 2;";
        for (int seed : new int[] {5, -10, Integer.MAX_VALUE - 9, Integer.MAX_VALUE}) {
            LeaningMarket x = Check.open(market);
            Check.law(x, "weighed%5+cried");
            for (int many : new int[] {1, 2, 19, 20}) {
                int least = Integer.MAX_VALUE;
                int most = Integer.MIN_VALUE;
                for (int i = 0; i < many; i++) {
                    int all = x.fair(seed + i, 7, 5, 0);
                    least = Math.min(least, all);
                    most = Math.max(most, all);
                }
                int low = least;
                int high = most;
                Check.due(many + " from " + seed + ", least", low, () -> x.span(seed, many, 7, 5, 0, 0));
                Check.due(many + " from " + seed + ", most", high, () -> x.span(seed, many, 7, 5, 1, 0));
            }
        }
    }

    private static void spanRange() {
        Check.says("`int span(int seed, int many, int days, int q, int what, int thing) throws IllegalArgumentException`: "
            + "Of so many SEEDS (1 to 20;");
        LeaningMarket x = Check.open("thing 5;");
        for (int many : new int[] {0, 21, -1, Integer.MIN_VALUE, Integer.MAX_VALUE}) {
            Check.due("many " + many, Check.ILLEGAL, () -> x.span(1, many, 1, 0, 0, 0));
        }
        Check.due("counted", 5, () -> x.status(1));
        Check.due("20 is fine", 5, () -> x.span(1, 20, 96, 16, 0, 0));
        Check.due("1 is fine", 5, () -> x.span(1, 1, 1, 0, 1, 0));
    }

    private static void spanOthers() {
        Check.says("0 the least of all WEIGHTS together then, 1 the most, 2 by how many a THING is in CRIES then.");
        LeaningMarket x = Check.open("thing 7;thing 7;thing 9;" + "cry 0 1 1 1;".repeat(10));
        Check.due("by all: thing 0", 20, () -> x.span(3, 20, 1, 0, 2, 0));
        Check.due("by all: thing 1", 20, () -> x.span(3, 20, 1, 0, 2, 1));
        Check.due("by none: thing 2", 0, () -> x.span(3, 20, 1, 0, 2, 2));
        // 7 to 7 is level, so is 14 to 7 by PLAY 9; 21 to 7 is cried anew, so that a tip leaves one.
        LeaningMarket y = Check.open("thing 7;thing 7;cry 0 1 1 1;beam 9 9;");
        Check.law(y, "0");
        int left = 0;
        for (int seed = 100; seed < 120; seed++) {
            boolean cried = drawn(seed, 1) % 2 != drawn(seed, 2) % 2 && drawn(seed, 3) % 3 == 2;
            left += cried || drawn(seed, 4) % 16 >= 8 ? 1 : 0;
        }
        int want = left;
        Check.due("by so many", want, () -> y.span(100, 20, 1, 8, 2, 0));
        Check.due("some, not all", 1, () -> want > 0 && want < 20 ? 1 : 0);
        for (int what : new int[] {3, -1, Integer.MIN_VALUE, Integer.MAX_VALUE}) {
            Check.due("what " + what, Check.ILLEGAL, () -> y.span(1, 1, 1, 0, what, 0));
        }
        Check.due("counted", 4, () -> y.status(1));
    }

    private static void spanThings() {
        Check.says("(IllegalArgumentException: no such THING, also for 0, 1.)");
        LeaningMarket none = new LeaningMarket();
        LeaningMarket two = Check.open("thing 5;thing 6;");
        for (int i = 0; i <= 2; i++) {
            int what = i;
            Check.due("without things, what " + i, Check.ILLEGAL, () -> none.span(1, 1, 1, 0, what, 0));
            for (int thing : new int[] {2, 8, -1, Integer.MIN_VALUE, Integer.MAX_VALUE}) {
                Check.due("thing " + thing + ", what " + i, Check.ILLEGAL, () -> two.span(1, 1, 1, 0, what, thing));
            }
        }
        Check.due("counted as illegal", 15, () -> two.status(1));
        Check.due("none as no such", 0, () -> two.status(0));
        Check.due("the last one", 11, () -> two.span(1, 1, 1, 0, 0, 1));
    }
}
