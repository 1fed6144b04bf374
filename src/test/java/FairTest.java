/** Promises 32 and 33: fairs by seeds. The answers due were reckoned by another program. */
public final class FairTest {
    private static final String MARKET = "thing 50;thing 40;thing 30;thing 20;cry 0 1 1 1;beam 11 2;";

    public static void main(String[] args) {
        byUsualLaw();
        byLaws();
        withoutThings();
        oneThing();
        beyondLastDay();
        span();
        refused();
        Check.end();
    }

    private static void fair(LeaningMarket x, int seed, int days, int q, int... want) {
        for (int i = 0; i < 4; i++) {
            int what = i;
            Check.due("32: " + seed + ", " + days + ", " + q + ": " + i, want[i], () -> x.fair(seed, days, q, what));
        }
    }

    private static void byUsualLaw() {
        LeaningMarket x = Check.open(MARKET);
        fair(x, 1, 1, 0, 140, 1, 0, 0);
        fair(x, 1, 10, 0, 139, 6, 5, 0);
        fair(x, 1, 40, 4, 52, 9, 14, 0);
        fair(x, -7, 96, 16, 4, 0, 68, 0);
        fair(x, 2147483647, 30, 8, 37, 8, 22, 0);
        fair(x, 123456789, 96, 3, 4, 9, 34, 0);
        Check.due("32: nothing stays changed", 140, () -> x.told(5));
        Check.due("32: nor cries", 1, () -> x.told(1));
        Check.due("32: nor weighings", 0, () -> x.told(10));
        Check.due("32: nor the day", 0, () -> x.told(2));
        Check.due("32: it is no work", 0, () -> x.count(2));
        Check.work(x, "weigh 2 1 3 1;");
        Check.due("32: weighings in it alone", 0, () -> x.fair(1, 1, 0, 2));
    }

    private static void byLaws() {
        LeaningMarket x = Check.open(MARKET);
        Check.law(x, "cried+day%2");
        fair(x, 5, 6, 2, 88, 5, 4, 0);
        fair(x, 9, 12, 10, 84, 0, 6, 0);
        Check.law(x, "8-thing*3");
        fair(x, 5, 6, 2, 50, 5, 4, 1);
        fair(x, 9, 12, 10, 28, 0, 7, 0);
        fair(x, 77, 9, 0, 34, 8, 7, 20);
        fair(x, 300, 20, 5, 23, 5, 14, 1);
    }

    private static void withoutThings() {
        LeaningMarket x = new LeaningMarket();
        fair(x, 5, 96, 16, 0, 0, 0, 0);
    }

    /** It is drawn, but can't be weighed against itself. */
    private static void oneThing() {
        LeaningMarket x = Check.open("thing 9;");
        fair(x, 5, 96, 16, 9, 0, 0, 0);
    }

    private static void beyondLastDay() {
        LeaningMarket x = Check.open("thing 60;thing 1;");
        Check.law(x, "day/305");
        for (int i = 0; i < 5; i++) {
            Check.work(x, "again 60[day;];");
        }
        Check.due("32: day 300", 300, () -> x.told(2));
        Check.due("32: days go by beyond", 56, () -> x.fair(4, 10, 0, 0));
    }

    private static void span(LeaningMarket x, int many, int days, int q, int... want) {
        int seed = 2147483640;
        for (int thing = 0; thing < 4; thing++) {
            int t = thing;
            String label = "33: " + many + ", " + days + ", " + q + ", thing " + t;
            Check.due(label + " least", want[0], () -> x.span(seed, many, days, q, 0, t));
            Check.due(label + " most", want[1], () -> x.span(seed, many, days, q, 1, t));
            Check.due(label + " in cries", want[2 + t], () -> x.span(seed, many, days, q, 2, t));
        }
    }

    private static void span() {
        LeaningMarket x = Check.open(MARKET);
        span(x, 1, 12, 4, 138, 138, 1, 1, 1, 1);
        // Seeds wrap beyond the greatest number.
        span(x, 20, 12, 4, 122, 140, 20, 19, 19, 19);
        span(x, 7, 30, 9, 17, 52, 6, 6, 6, 6);
        span(x, 20, 3, 15, 140, 140, 7, 4, 8, 5);
        Check.due("33: nothing stays changed", 140, () -> x.told(5));
    }

    private static void refused() {
        LeaningMarket x = Check.open(MARKET);
        Check.due("32: days below 1", Check.ILLEGAL, () -> x.fair(1, 0, 0, 0));
        Check.due("32: days above 96", Check.ILLEGAL, () -> x.fair(1, 97, 0, 0));
        Check.due("32: q below 0", Check.ILLEGAL, () -> x.fair(1, 1, -1, 0));
        Check.due("32: q above 16", Check.ILLEGAL, () -> x.fair(1, 1, 17, 0));
        Check.due("32: another what", Check.ILLEGAL, () -> x.fair(1, 1, 0, 4));
        Check.due("32: another what", Check.ILLEGAL, () -> x.fair(1, 1, 0, -1));
        Check.due("33: many below 1", Check.ILLEGAL, () -> x.span(1, 0, 1, 0, 0, 0));
        Check.due("33: many above 20", Check.ILLEGAL, () -> x.span(1, 21, 1, 0, 0, 0));
        Check.due("33: days below 1", Check.ILLEGAL, () -> x.span(1, 1, 0, 0, 0, 0));
        Check.due("33: days above 96", Check.ILLEGAL, () -> x.span(1, 1, 97, 0, 0, 0));
        Check.due("33: q below 0", Check.ILLEGAL, () -> x.span(1, 1, 1, -1, 0, 0));
        Check.due("33: q above 16", Check.ILLEGAL, () -> x.span(1, 1, 1, 17, 0, 0));
        Check.due("33: another what", Check.ILLEGAL, () -> x.span(1, 1, 1, 0, 3, 0));
        Check.due("33: another what", Check.ILLEGAL, () -> x.span(1, 1, 1, 0, -1, 0));
        for (int i = 0; i <= 2; i++) {
            int what = i;
            Check.due("33: no such thing for " + i, Check.ILLEGAL, () -> x.span(1, 1, 1, 0, what, 4));
            Check.due("33: no such thing for " + i, Check.ILLEGAL, () -> x.span(1, 1, 1, 0, what, -1));
        }
        Check.due("36: so many", 20, () -> x.status(1));
    }
}
