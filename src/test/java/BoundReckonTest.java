/** The bounds of promises 24 to 26: FALSE, SELLERS, EVEN. */
public final class BoundReckonTest {
    public static void main(String[] args) {
        leastWeighings();
        falseNone();
        falseRange();
        sellers();
        rests();
        sellersRange();
        even();
        evenRange();
        Check.end();
    }

    private static void leastWeighings() {
        Check.says("the least w (2 at least) so that 3 multiplied w times by itself (3, 9, 27 for w 1, 2, 3), less 3, by 2 "
            + "is n or more");
        LeaningMarket x = new LeaningMarket();
        int power = 3;
        for (int w = 2; w <= 9; w++) {
            power *= 3;
            int most = (power - 3) / 2;
            int weighings = w;
            Check.due("the most by " + w, weighings, () -> x.falsely(most));
            Check.due("one more than by " + w, weighings + 1, () -> x.falsely(most + 1));
        }
        Check.due("2 at least", 2, () -> x.falsely(3));
    }

    private static void falseNone() {
        Check.says("NONE for n 1, 2.");
        LeaningMarket x = new LeaningMarket();
        Check.due("1", -1, () -> x.falsely(1));
        Check.due("2", -1, () -> x.falsely(2));
        Check.due("3", 2, () -> x.falsely(3));
        Check.due("4", 3, () -> x.falsely(4));
    }

    private static void falseRange() {
        Check.says("FALSE of n (1 to 9,999).");
        LeaningMarket x = new LeaningMarket();
        Check.due("9999", 10, () -> x.falsely(9999));
        for (int n : new int[] {0, 10000, -1, Integer.MIN_VALUE, Integer.MAX_VALUE}) {
            Check.due("n " + n, Check.ILLEGAL, () -> x.falsely(n));
        }
        Check.due("counted", 5, () -> x.status(1));
    }

    private static void sellers(LeaningMarket x, int v, int w, int... want) {
        for (int i = 0; i < want.length; i++) {
            int what = i;
            Check.due(v + ", " + w + ": " + i, want[i], () -> x.sellers(v, w, what));
        }
    }

    private static void sellers() {
        Check.says("both honestly: each has v; one fat: it has w, the other one 0; both fat: each has 0 less 1;");
        LeaningMarket x = new LeaningMarket();
        sellers(x, 5, 4, 1, 0, 10);
        sellers(x, 5, 5, 3, 0, 10);
        sellers(x, 5, 6, 2, 1, 6);
        sellers(x, 99, 99, 3, 0, 198);
        sellers(x, 98, 99, 2, 1, 99);
        sellers(x, 99, 98, 1, 0, 198);
        sellers(x, 0, 0, 3, 0, 0);
        sellers(x, 0, 1, 2, 1, 1);
        sellers(x, 1, 0, 1, 0, 2);
    }

    private static void rests() {
        Check.says("RESTS: neither would have more by the other thing.");
        LeaningMarket x = new LeaningMarket();
        // Both fat is none: either would have 0 honestly. One fat is one where w is v or more.
        Check.due("v above w", 1, () -> x.sellers(50, 49, 0));
        Check.due("v as w", 3, () -> x.sellers(50, 50, 0));
        Check.due("v below w", 2, () -> x.sellers(49, 50, 0));
    }

    private static void sellersRange() {
        Check.says("SELLERS by v, w (0 to 99): 0 how many RESTS, 1 the first (10 times what the one does, 0 honestly, 1 fat, "
            + "and the other one; NONE), 2 what both have by it together (0 without).");
        LeaningMarket x = new LeaningMarket();
        for (int none : new int[] {100, -1, Integer.MIN_VALUE, Integer.MAX_VALUE}) {
            Check.due("v " + none, Check.ILLEGAL, () -> x.sellers(none, 0, 0));
            Check.due("w " + none, Check.ILLEGAL, () -> x.sellers(0, none, 0));
        }
        for (int what : new int[] {3, -1, Integer.MIN_VALUE, Integer.MAX_VALUE}) {
            Check.due("what " + what, Check.ILLEGAL, () -> x.sellers(0, 0, what));
        }
        Check.due("counted", 12, () -> x.status(1));
        // There is no v, w without a rest: NONE and 0 are never due.
        for (int v = 0; v <= 99; v += 11) {
            for (int w = 0; w <= 99; w += 11) {
                int a = v;
                int b = w;
                Check.due("a rest by " + v + ", " + w, 1, () -> x.sellers(a, b, 0) > 0 && x.sellers(a, b, 1) >= 0 ? 1 : 0);
            }
        }
    }

    private static void even(LeaningMarket x, int n, int q, long up, long down) {
        Check.due("above of " + n + ", " + q, up, () -> x.even(n, q, 0));
        Check.due("below of " + n + ", " + q, down, () -> x.even(n, q, 1));
    }

    private static void even() {
        Check.says("EVEN of n, q: each of n tips goes left by q of 16, each by itself: "
            + "how likely as many go left as right.");
        LeaningMarket x = new LeaningMarket();
        for (int q : new int[] {0, 1, 8, 16}) {
            even(x, 0, q, 1, 1);
            even(x, 1, q, 0, 1);
            even(x, 11, q, 0, 1);
        }
        even(x, 2, 0, 0, 1);
        even(x, 2, 16, 0, 1);
        even(x, 12, 0, 0, 1);
        even(x, 12, 16, 0, 1);
        even(x, 2, 8, 1, 2);
        even(x, 2, 1, 15, 128);
        even(x, 2, 15, 15, 128);
        even(x, 12, 8, 231, 1024);
        // 924 times 15 six times by itself, by 16 twelve times by itself: 4 in both.
        even(x, 12, 1, 231L * 11390625L, 70368744177664L);
        even(x, 12, 15, 231L * 11390625L, 70368744177664L);
    }

    private static void evenRange() {
        Check.says("EVEN of n (0 to 12), q (0 to 16): above (part 0), below (part 1), in least terms.");
        LeaningMarket x = new LeaningMarket();
        for (int n : new int[] {13, -1, Integer.MIN_VALUE, Integer.MAX_VALUE}) {
            Check.due("n " + n, Check.ILLEGAL, () -> x.even(n, 8, 0));
        }
        for (int q : new int[] {17, -1, Integer.MIN_VALUE, Integer.MAX_VALUE}) {
            Check.due("q " + q, Check.ILLEGAL, () -> x.even(2, q, 0));
        }
        for (int part : new int[] {2, -1, Integer.MIN_VALUE, Integer.MAX_VALUE}) {
            Check.due("part " + part, Check.ILLEGAL, () -> x.even(2, 8, part));
        }
        Check.due("counted", 12, () -> x.status(1));
        // 6 times 12 times 12 times 4 times 4 by 65536 is 27 by 128.
        even(x, 4, 4, 27, 128);
        even(x, 4, 12, 27, 128);
    }
}
