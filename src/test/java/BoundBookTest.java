/** The bounds of promises 6, 22, 23 and of a BOOK's text. */
public final class BoundBookTest {
    public static void main(String[] args) {
        bytes();
        lines();
        notOne();
        stood();
        lengths();
        pairs();
        fewPairs();
        firstPair();
        look();
        lookAtFew();
        lookLeft();
        Check.end();
    }

    private static void book(String text, long want, long fault) {
        LeaningMarket x = Check.open("thing 5;thing 6;thing 7;");
        Check.due(text, want, () -> Check.book(x, text));
        Check.due("fault of " + text, fault, x::fault);
    }

    private static void bytes() {
        Check.says("A BOOK is a text of up to 60 bytes");
        book("0 1 2;".repeat(5) + " ".repeat(24) + "0 1 2;", 6, -1);
        book("0 1 2;".repeat(5) + " ".repeat(25) + "0 1 2", -9, 60);
        book(" ".repeat(60), 0, -1);
        LeaningMarket x = Check.open("thing 5;thing 6;");
        Check.put(x, "0 1 2;" + " ".repeat(74));
        Check.refused("61 bytes", x, Check.ILLEGAL, () -> x.book(61));
        Check.due("60 bytes of them", 1, () -> x.book(60));
    }

    private static void lines() {
        Check.says("{ A B R \";\" }, 6 lines at most");
        book("", 0, -1);
        book("0 1 2;", 1, -1);
        book("0 1 2;".repeat(6), 6, -1);
        book("0 1 2;".repeat(6) + "   ", 6, -1);
        book("0 1 2;".repeat(7), -7, 36);
        book("0 1 2;".repeat(6) + "  2", -7, 38);
        book("0 1 2", -9, 5);
        book("0 1;", -9, 3);
        LeaningMarket x = Check.open("thing 5;thing 6;thing 7;");
        // The sixth line alone can't be: 5 to 7 can't be left down where 6 to 5 is right down.
        Check.book(x, "1 0 2;".repeat(5) + "0 2 1;");
        Check.due("the sixth counts", 0, () -> x.fits(0));
        Check.book(x, "1 0 2;".repeat(5));
        Check.due("without it some fit", 1, () -> x.fits(0) > 0 ? 1 : 0);
    }

    private static void notOne() {
        Check.says("one of B on the right one (A is not B)");
        book("0 0 1;", -8, 2);
        book("2 2 0;", -8, 2);
        book("2 0 0;", 1, -1);
        book("3 0 0;", -8, 0);
        book("0 3 0;", -8, 2);
        LeaningMarket one = Check.open("thing 5;");
        Check.due("there is no other one", -8, () -> Check.book(one, "0 1 1;"));
        Check.due("at B", 2, one::fault);
        LeaningMarket none = new LeaningMarket();
        Check.due("there is none", -8, () -> Check.book(none, "0 1 1;"));
        Check.due("at A", 0, none::fault);
        Check.due("no line", 0, () -> Check.book(none, ""));
    }

    private static void stood() {
        Check.says("it stood R (0 level, 1 left down, 2 right down).");
        book("0 1 0;", 1, -1);
        book("0 1 1;", 1, -1);
        book("0 1 2;", 1, -1);
        book("0 1 3;", -8, 4);
        // By LEAN 9 and PLAY 0, among others, 5 to 6 is right down, 6 to 5 left down, 5 to 5 level.
        LeaningMarket x = Check.open("thing 5;thing 6;thing 5;");
        String[] texts = {"0 1 2;1 0 1;0 2 0;", "0 1 1;1 0 2;", "0 1 0;1 0 0;2 0 1;"};
        int[] want = {90, -1, -1};
        for (int i = 0; i < texts.length; i++) {
            Check.book(x, texts[i]);
            Check.due(texts[i], want[i], () -> x.fits(1));
        }
    }

    private static void lengths() {
        Check.says("Likewise the BOOK (n to 60): how many lines.");
        int[] lengths = {-1, 21, 61, Integer.MIN_VALUE, Integer.MAX_VALUE};
        for (int n : lengths) {
            LeaningMarket x = Check.open("thing 5;thing 6;");
            Check.book(x, "0 1 2;");
            Check.put(x, "0 1 2;1 0 1;0 1 2;  ");
            Check.refused("n " + n, x, Check.ILLEGAL, () -> x.book(n));
            Check.due("the tape was as it is", 3, () -> x.book(20));
            Check.due("three lines", 3, () -> x.told(8));
        }
        LeaningMarket x = Check.open("thing 5;thing 6;");
        Check.book(x, "0 1 2;0 1 2;");
        Check.stays("fault 1", x, -9, () -> Check.book(x, "0 1 2"));
        Check.stays("fault 2", x, -8, () -> Check.book(x, "0 1 3;"));
        Check.stays("fault 3", x, -7, () -> Check.book(x, "1 0 2;".repeat(7)));
        Check.due("the tape is empty", 0, () -> x.count(1));
        Check.put(x, "0 1 2;0 1 2;");
        Check.due("the first bytes alone", 1, () -> x.book(6));
        Check.due("empty then", 0, () -> x.count(1));
        Check.due("n 0 is a book without lines", 0, () -> x.book(0));
        Check.due("told so", 0, () -> x.told(8));
        Check.due("no work", 0, () -> x.count(2));
    }

    private static void fits(String market, String text, int pairs, int first) {
        LeaningMarket x = Check.open(market);
        Check.book(x, text);
        Check.due(text + " for " + market, pairs, () -> x.fits(0));
        Check.due("first of " + text + " for " + market, first, () -> x.fits(1));
    }

    private static void pairs() {
        Check.says("pairs of a LEAN (0 to 18) and a PLAY (0 to 9) by which the beam would STAND as told in all lines");
        fits("", "", 190, 0);
        // 8 lighter on the left is left down by LEAN 18 and PLAY 0 alone; 9 lighter by none.
        fits("thing 1;thing 9;", "0 1 1;", 1, 180);
        fits("thing 1;thing 10;", "0 1 1;", 0, -1);
        // 8 heavier is right down by LEAN 0 and PLAY 0 alone.
        fits("thing 9;thing 1;", "0 1 2;", 1, 0);
        fits("thing 10;thing 1;", "0 1 2;", 0, -1);
        // 18 heavier is level by LEAN 0 and PLAY 9 alone, 18 lighter by LEAN 18 and PLAY 9.
        fits("thing 19;thing 1;", "0 1 0;", 1, 9);
        fits("thing 20;thing 1;", "0 1 0;", 0, -1);
        fits("thing 1;thing 19;", "0 1 0;", 1, 189);
        fits("thing 1;thing 20;", "0 1 0;", 0, -1);
        // 19 heavier is left down by every pair.
        fits("thing 20;thing 1;", "0 1 1;", 190, 0);
        fits("thing 1;thing 20;", "0 1 2;", 190, 0);
    }

    private static void fewPairs() {
        Check.says("WEIGHTS as now: how many, the first (by LEAN, then PLAY).");
        LeaningMarket x = Check.open("thing 1;thing 9;");
        Check.book(x, "0 1 1;");
        Check.due("one", 1, () -> x.fits(0));
        Check.work(x, "feed 0 1;");
        // 7 lighter: LEAN 17 with PLAY 0, LEAN 18 with PLAY 0 and 1.
        Check.due("as now", 3, () -> x.fits(0));
        Check.due("the first", 170, () -> x.fits(1));
        // 17 heavier is level by LEAN 0 with PLAY 8 and 9, LEAN 1 with PLAY 9.
        fits("thing 18;thing 1;", "0 1 0;", 3, 8);
    }

    private static void firstPair() {
        Check.says("FITS: 0 how many pairs, 1 the first (10 times LEAN, and PLAY; NONE).");
        LeaningMarket x = Check.open("thing 6;thing 5;");
        Check.book(x, "0 1 1;1 0 1;");
        // L above 8 and L above 10 by more than PLAY.
        Check.due("the first", 110, () -> x.fits(1));
        Check.due("so many", 8 * 9 / 2, () -> x.fits(0));
        Check.book(x, "0 1 1;0 1 2;");
        Check.due("none", 0, () -> x.fits(0));
        Check.due("no first", -1, () -> x.fits(1));
        int[] others = {-1, 2, Integer.MIN_VALUE, Integer.MAX_VALUE};
        for (int what : others) {
            Check.refused("what " + what, x, Check.ILLEGAL, () -> x.fits(what));
        }
    }

    private static void look() {
        Check.says("LOOK: 0 the two (10 times A, and B), 1 how many pairs are left at the worst; "
            + "NONE both: there are not two THINGS.");
        String[] markets = {"", "thing 5;"};
        for (String market : markets) {
            LeaningMarket x = Check.open(market);
            Check.due("the two of " + market, -1, () -> x.look(0));
            Check.due("the worst of " + market, -1, () -> x.look(1));
        }
        LeaningMarket two = Check.open("thing 5;thing 5;");
        Check.due("two", 1, () -> two.look(0));
        // Level by |LEAN - 9| no more than PLAY.
        Check.due("at the worst", 100, () -> two.look(1));
        int[] others = {-1, 2, Integer.MIN_VALUE, Integer.MAX_VALUE};
        for (int what : others) {
            Check.refused("what " + what, two, Check.ILLEGAL, () -> two.look(what));
        }
        // Alike ones are level by 100 pairs, 10 to 11 is by 99.
        LeaningMarket eight = Check.open("thing 1;thing 60;thing 30;thing 1;thing 60;thing 30;thing 10;thing 11;");
        Check.due("10 to 11 is fewest", 67, () -> eight.look(0));
    }

    private static void lookAtFew() {
        Check.says("LOOK: the two THINGS, A less than B, one of each on the pans, A left, by which, "
            + "however it STANDS, fewest such pairs are left at the worst, of these the first.");
        LeaningMarket x = Check.open("thing 20;thing 40;thing 60;thing 19;");
        // 20 to 40, 20 to 60, 40 to 60, 40 to 19, 60 to 19 stand one way by all 190; 20 to 19 does not.
        Check.due("the two", 3, () -> x.look(0));
        LeaningMarket alike = Check.open("thing 1;thing 30;thing 60;");
        Check.due("alike ones: the first", 1, () -> alike.look(0));
        Check.due("all are left", 190, () -> alike.look(1));
        LeaningMarket order = Check.open("thing 60;thing 10;thing 11;thing 10;thing 11;");
        Check.due("A, then B", 12, () -> order.look(0));
        // LEAN 17 with PLAY 0, LEAN 18 with PLAY 0 or 1 are left: 2 on the left, 10 on the right tell them apart.
        LeaningMarket left = Check.open("thing 2;thing 9;thing 10;");
        Check.book(left, "0 1 1;");
        Check.due("A on the left pan", 2, () -> left.look(0));
        Check.due("two are left", 2, () -> left.look(1));
    }

    private static void lookLeft() {
        Check.says("fewest such pairs are left at the worst");
        LeaningMarket x = Check.open("thing 1;thing 9;thing 1;");
        Check.book(x, "0 1 1;");
        Check.due("one pair: the first two", 1, () -> x.look(0));
        Check.due("one is left", 1, () -> x.look(1));
        Check.book(x, "0 1 1;0 1 2;");
        Check.due("no pair: the first two", 1, () -> x.look(0));
        Check.due("none is left", 0, () -> x.look(1));
    }
}
