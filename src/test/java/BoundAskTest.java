/** The bounds of promises 9 to 12, 14, 28, 30, 31, 36, and of how long an object is used. */
public final class BoundAskTest {
    private static final int[] EDGES = {-1, Integer.MIN_VALUE, Integer.MAX_VALUE};

    public static void main(String[] args) {
        standing();
        so();
        told();
        toldOthers();
        thing();
        noSuchFirst();
        cry();
        stands();
        nothingChanged();
        beyondTheLastDay();
        ahead();
        aheadLengths();
        heaviest();
        alike();
        against();
        status();
        calls();
        Check.end();
    }

    private static void beam(int a, int b, int lean, int play, int want) {
        LeaningMarket x = Check.open("thing " + a + ";thing " + b + ";beam " + lean + " " + play + ";");
        Check.due(a + " to " + b + " by " + lean + ", " + play, want, () -> x.stands(0, 1, 1, 1));
    }

    private static void standing() {
        Check.says("LEFT is WEIGHT of A by N, and LEAN, less 9; RIGHT is WEIGHT of B by M. The beam STANDS left down, "
            + "if LEFT less RIGHT is more than PLAY; right down, if RIGHT less LEFT is; else level.");
        beam(10, 10, 9, 0, 0);
        beam(11, 10, 9, 0, 1);
        beam(10, 11, 9, 0, 2);
        beam(14, 10, 9, 4, 0);
        beam(15, 10, 9, 4, 1);
        beam(10, 14, 9, 4, 0);
        beam(10, 15, 9, 4, 2);
        beam(10, 10, 18, 9, 0);
        beam(10, 10, 18, 8, 1);
        beam(10, 10, 0, 9, 0);
        beam(10, 10, 0, 8, 2);
        beam(1, 60, 18, 0, 2);
        // LEFT may be below 0: 1 and 0 less 9, to 1.
        beam(1, 1, 0, 8, 2);
        LeaningMarket x = Check.open("thing 9;thing 1;");
        Check.due("one to nine", 0, () -> x.stands(0, 1, 1, 9));
        Check.due("one to eight", 1, () -> x.stands(0, 1, 1, 8));
        Check.due("nine to one", 0, () -> x.stands(1, 9, 0, 1));
        Check.due("eight to one", 2, () -> x.stands(1, 8, 0, 1));
    }

    private static void so() {
        Check.says("A CRY is SO, if WEIGHT of its A by its N is as much as WEIGHT of its B by its M, or more.");
        // 18 to 18 each; lean and play do not matter.
        LeaningMarket x = Check.open("thing 9;thing 2;cry 0 2 1 9;cry 1 9 0 2;cry 0 2 1 9;beam 0 9;");
        Check.due("as much", 0, () -> x.told(6));
        // 18 to 20, 20 to 18, 30 to 30.
        LeaningMarket y = Check.open("thing 6;thing 10;cry 0 3 1 2;cry 1 2 0 3;cry 0 5 1 3;beam 18 0;");
        Check.due("less", 1, () -> y.told(6));
        LeaningMarket ten = Check.open("thing 1;thing 2;" + "cry 0 1 1 1;".repeat(10));
        Check.due("ten are not", 1023, () -> ten.told(6));
        Check.work(ten, "feed 0 1;");
        Check.due("now they are", 0, () -> ten.told(6));
        LeaningMarket none = new LeaningMarket();
        Check.due("without cries", 0, () -> none.told(6));
    }

    private static void told() {
        Check.says("0 THINGS, 1 CRIES there are, 2 the DAY, 3 LEAN, 4 PLAY, 5 WEIGHTS of all (one of each) together, "
            + "6 CRIES that are not SO now (bits), 7 THINGS that are in CRIES (bits), 8 lines of the BOOK, "
            + "9 STEPS REFUSED by the latest WORK");
        String most = "thing 60;".repeat(8) + "cry 0 1 7 2;".repeat(10) + "beam 18 9;";
        LeaningMarket x = Check.open(most);
        Check.book(x, "0 1 1;".repeat(6));
        Check.work(x, "again 60[day;turn;turn;];again 19[tip 9;];");
        // 1 and 180, 1 and 18 more: the first tip is done, the other seventeen are not.
        int[] want = {8, 9, 60, 18, 9, 480, 511, 129, 6, 17, 0};
        for (int i = 0; i < want.length; i++) {
            int what = i;
            Check.due("told " + i, want[i], () -> x.told(what));
        }
        LeaningMarket none = new LeaningMarket();
        int[] least = {0, 0, 0, 9, 0, 0, 0, 0, 0, 0, 0};
        for (int i = 0; i < least.length; i++) {
            int what = i;
            Check.due("told " + i + " at first", least[i], () -> none.told(what));
        }
    }

    private static void toldOthers() {
        Check.says("10 weighings by now. IllegalArgumentException: another what (so below).");
        LeaningMarket x = Check.open("thing 5;thing 6;");
        Check.work(x, "weigh 0 1 1 1;weigh 0 1 1 1;weigh 0 2 1 1;");
        Check.due("two of three", 2, () -> x.told(10));
        for (int what : new int[] {11, -1, Integer.MIN_VALUE, Integer.MAX_VALUE}) {
            Check.refused("told " + what, x, Check.ILLEGAL, () -> x.told(what));
        }
    }

    private static void thing() {
        Check.says("Of a THING: 0 WEIGHT, 1 as told, 2 how often it was weighed, 3 CRIES in which it is (bits), 4 WEAR now.");
        LeaningMarket x = Check.open("thing 30;thing 50;cry 0 1 1 1;cry 1 1 0 1;");
        Check.law(x, "weight/10");
        Check.work(x, "weigh 0 2 1 1;day;feed 1 30;");
        int[][] want = {{27, 30, 1, 7, 2}, {60, 50, 1, 7, 6}};
        for (int i = 0; i < 2; i++) {
            for (int j = 0; j <= 4; j++) {
                int thing = i;
                int what = j;
                Check.due("thing " + i + ", " + j, want[i][j], () -> x.thing(thing, what));
            }
        }
        for (int what : new int[] {5, -1, Integer.MIN_VALUE, Integer.MAX_VALUE}) {
            Check.refused("what " + what, x, Check.ILLEGAL, () -> x.thing(1, what));
        }
        LeaningMarket ten = Check.open("thing 1;thing 2;thing 3;" + "cry 0 1 1 1;".repeat(10));
        Check.due("ten cries", 1023, () -> ten.thing(1, 3));
        Check.due("no cry", 0, () -> ten.thing(2, 3));
    }

    private static void noSuchFirst() {
        Check.says("NoSuchElementException: no such THING, CRY (so below, ahead of others).");
        LeaningMarket x = Check.open("thing 5;thing 6;cry 0 1 1 1;");
        for (int none : new int[] {2, 8, -1, Integer.MIN_VALUE, Integer.MAX_VALUE}) {
            Check.due("thing " + none, Check.NO_SUCH, () -> x.thing(none, 0));
            Check.due("thing first, " + none, Check.NO_SUCH, () -> x.thing(none, 9));
            Check.due("cry first, " + none, Check.NO_SUCH, () -> x.cry(none, 9));
            Check.due("stands first, " + none, Check.NO_SUCH, () -> x.stands(none, 0, 0, 10));
            Check.due("stands first, the other " + none, Check.NO_SUCH, () -> x.stands(0, 0, none, 10));
            Check.due("worth first, " + none, Check.NO_SUCH, () -> x.worth(none, 0, 9));
            Check.due("worth first, the other " + none, Check.NO_SUCH, () -> x.worth(0, none, 9));
            Check.due("worth first, both " + none, Check.NO_SUCH, () -> x.worth(none, none, 9));
            Check.due("share first, " + none, Check.NO_SUCH, () -> x.share(none, -1, -1));
            Check.due("above " + none, Check.NO_SUCH, () -> x.above(none));
            Check.due("against " + none, Check.NO_SUCH, () -> x.against(none, 0));
            Check.due("against, the other " + none, Check.NO_SUCH, () -> x.against(0, none));
        }
        Check.due("so many, each once", 60, () -> x.status(0));
        Check.due("none as another", 0, () -> x.status(1));
        LeaningMarket y = Check.open("thing 5;thing 6;cry 0 1 1 1;");
        Check.refused("thing", y, Check.NO_SUCH, () -> y.thing(2, 9));
        Check.refused("cry", y, Check.NO_SUCH, () -> y.cry(1, 9));
        Check.refused("against", y, Check.NO_SUCH, () -> y.against(2, 0));
    }

    private static void cry() {
        Check.says("Of a CRY: 0 A, 1 N, 2 B, 3 M.");
        LeaningMarket x = Check.open("thing 1;".repeat(8) + "cry 6 9 7 8;");
        int[] want = {6, 9, 7, 8};
        for (int i = 0; i < 4; i++) {
            int what = i;
            Check.due("part " + i, want[i], () -> x.cry(0, what));
        }
        for (int what : new int[] {4, -1, Integer.MIN_VALUE, Integer.MAX_VALUE}) {
            Check.due("what " + what, Check.ILLEGAL, () -> x.cry(0, what));
        }
        Check.due("counted", 4, () -> x.status(1));
    }

    private static void stands() {
        Check.says("How the beam STANDS (0 level, 1 left down, 2 right down), N (1 to 9) of a THING on the left pan, "
            + "M (1 to 9) of another one (or of it) on the right one.");
        LeaningMarket x = Check.open("thing 60;thing 60;");
        Check.due("nine to nine", 0, () -> x.stands(0, 9, 1, 9));
        Check.due("one to one", 0, () -> x.stands(0, 1, 1, 1));
        Check.due("of it", 0, () -> x.stands(0, 9, 0, 9));
        Check.due("of it, left down", 1, () -> x.stands(0, 9, 0, 8));
        Check.due("of it, right down", 2, () -> x.stands(0, 1, 0, 2));
        for (int n : new int[] {0, 10, -1, Integer.MIN_VALUE, Integer.MAX_VALUE}) {
            Check.due("N " + n, Check.ILLEGAL, () -> x.stands(0, n, 1, 1));
            Check.due("M " + n, Check.ILLEGAL, () -> x.stands(0, 1, 1, n));
        }
        Check.due("counted", 10, () -> x.status(1));
    }

    private static void nothingChanged() {
        Check.says("Asked, nothing stays changed;");
        LeaningMarket x = Check.open("thing 50;thing 40;thing 30;cry 0 1 1 1;cry 1 1 0 2;cry 1 1 2 2;beam 4 3;");
        Check.law(x, "weight/9+day");
        Check.book(x, "0 1 1;");
        Check.work(x, "weigh 2 1 0 1;tip 9;day;");
        x.image();
        Check.put(x, "x");
        String before = Check.standing(x);
        x.stands(0, 9, 1, 9);
        x.ahead(99, 0);
        x.ahead(99, 2);
        x.worth(0, 2, 0);
        x.fattest(1);
        x.fat();
        x.mend();
        x.match(7, 1);
        x.fewest(40);
        x.level(7, 1);
        x.look(0);
        x.falsely(99);
        x.sellers(3, 4, 0);
        x.even(12, 8, 0);
        x.share(0, 7, 50);
        x.heaviest(0);
        x.above(0);
        x.alike(0);
        x.against(0, 1);
        x.fair(3, 96, 9, 0);
        x.span(3, 20, 96, 9, 0, 0);
        String after = Check.standing(x);
        Check.due(before + ", then " + after, 1, () -> before.equals(after) ? 1 : 0);
        Check.due("the tape", 20, () -> x.count(1));
        Check.due("none was refused", 0, () -> x.status(0) + x.status(1));
        Check.due("the image", 0, x::restore);
        Check.due("the work", 0, x::undo);
        Check.due("as told", 120, () -> x.told(5));
    }

    private static LeaningMarket late(String market, String law) {
        LeaningMarket x = Check.open(market);
        Check.law(x, "0");
        Check.work(x, "again 60[day;day;day;];");
        Check.work(x, "again 60[day;];again 60[day;];");
        Check.due("day 300", 300, () -> x.told(2));
        Check.law(x, law);
        return x;
    }

    private static void beyondTheLastDay() {
        Check.says("DAYS go by as by day (beyond 300, too).");
        // By days 300, 301, 302, ..: wears 0, 1, 2, ..
        LeaningMarket x = late("thing 60;", "day-300");
        Check.due("one", 60, () -> x.ahead(1, 0));
        Check.due("two", 59, () -> x.ahead(2, 0));
        Check.due("three", 57, () -> x.ahead(3, 0));
        Check.due("ten", 60 - 45, () -> x.ahead(10, 0));
        Check.due("99: 1 at least", 1, () -> x.ahead(99, 0));
        Check.due("a fair of three", 57, () -> x.fair(1, 3, 0, 0));
        Check.due("fairs of three", 57, () -> x.span(1, 20, 3, 0, 0, 0));
        Check.due("it is day 300 still", 300, () -> x.told(2));
    }

    private static void ahead() {
        Check.says("nothing else being done: 0 WEIGHTS of all together, "
            + "1 the heaviest THING (of alike ones the first; NONE), 2 CRIES that are not SO then (bits).");
        LeaningMarket x = Check.open("thing 10;thing 9;thing 9;cry 0 1 1 1;cry 1 1 0 1;");
        Check.law(x, "1-thing");
        Check.due("now", 28, () -> x.ahead(0, 0));
        Check.due("now the heaviest", 0, () -> x.ahead(0, 1));
        Check.due("now not so", 2, () -> x.ahead(0, 2));
        Check.due("in a day", 27, () -> x.ahead(1, 0));
        Check.due("in a day all are alike", 0, () -> x.ahead(1, 1));
        Check.due("in a day both are so", 0, () -> x.ahead(1, 2));
        Check.due("in two days", 26, () -> x.ahead(2, 0));
        Check.due("in two days the first of alike ones", 1, () -> x.ahead(2, 1));
        Check.due("in two days not so", 1, () -> x.ahead(2, 2));
        LeaningMarket none = new LeaningMarket();
        Check.due("without things", 0, () -> none.ahead(99, 0));
        Check.due("none", -1, () -> none.ahead(99, 1));
        Check.due("without cries", 0, () -> none.ahead(99, 2));
        for (int what : new int[] {3, -1, Integer.MIN_VALUE, Integer.MAX_VALUE}) {
            Check.due("what " + what, Check.ILLEGAL, () -> x.ahead(1, what));
        }
        Check.due("counted", 4, () -> x.status(1));
    }

    private static void aheadLengths() {
        Check.says("In n DAYS (0 to 99)");
        LeaningMarket x = Check.open("thing 60;thing 60;");
        Check.law(x, "day%99/98");
        Check.due("0", 120, () -> x.ahead(0, 0));
        Check.due("98", 120, () -> x.ahead(98, 0));
        Check.due("99", 118, () -> x.ahead(99, 0));
        for (int n : new int[] {100, -1, Integer.MIN_VALUE, Integer.MAX_VALUE}) {
            Check.refused("n " + n, x, Check.ILLEGAL, () -> x.ahead(n, 0));
        }
    }

    private static void heaviest() {
        Check.says("The heaviest THING (what 0), of alike ones the first, its WEIGHT (1); NONE both: there are none.");
        LeaningMarket none = new LeaningMarket();
        Check.due("none", -1, () -> none.heaviest(0));
        Check.due("none has a weight", -1, () -> none.heaviest(1));
        LeaningMarket x = Check.open("thing 59;thing 60;thing 60;");
        Check.due("the first of alike ones", 1, () -> x.heaviest(0));
        Check.due("its weight", 60, () -> x.heaviest(1));
        LeaningMarket last = Check.open("thing 1;".repeat(7) + "thing 2;");
        Check.due("the last of eight", 7, () -> last.heaviest(0));
        LeaningMarket one = Check.open("thing 1;");
        Check.due("one", 0, () -> one.heaviest(0));
        Check.due("its weight", 1, () -> one.heaviest(1));
        for (int what : new int[] {2, -1, Integer.MIN_VALUE, Integer.MAX_VALUE}) {
            Check.due("what " + what, Check.ILLEGAL, () -> x.heaviest(what));
            Check.due("without things, what " + what, Check.ILLEGAL, () -> none.heaviest(what));
        }
        Check.due("counted", 4, () -> x.status(1));
    }

    private static void alike() {
        Check.says("0 how many (each once), 1 the first (10 times the lesser, and the other one; NONE).");
        LeaningMarket none = new LeaningMarket();
        Check.due("without things", 0, () -> none.alike(0));
        Check.due("without things, the first", -1, () -> none.alike(1));
        LeaningMarket one = Check.open("thing 5;");
        Check.due("one thing", 0, () -> one.alike(0));
        Check.due("one thing, the first", -1, () -> one.alike(1));
        LeaningMarket all = Check.open("thing 5;".repeat(8));
        Check.due("eight", 28, () -> all.alike(0));
        Check.due("the first", 1, () -> all.alike(1));
        LeaningMarket last = Check.open("thing 1;thing 2;thing 3;thing 4;thing 5;thing 6;thing 7;thing 7;");
        Check.due("the last two", 1, () -> last.alike(0));
        Check.due("they are the first", 67, () -> last.alike(1));
        LeaningMarket order = Check.open("thing 1;thing 2;thing 3;thing 3;thing 2;");
        Check.due("by the lesser", 14, () -> order.alike(1));
        for (int what : new int[] {2, -1, Integer.MIN_VALUE, Integer.MAX_VALUE}) {
            Check.due("what " + what, Check.ILLEGAL, () -> all.alike(what));
        }
        Check.due("counted", 4, () -> all.status(1));
    }

    private static void against() {
        Check.says("The fewest of one THING (1 to 9) that are as heavy as one of another one, or heavier, "
            + "by WEIGHTS as now; NONE: nine are not.");
        LeaningMarket x = Check.open("thing 6;thing 54;thing 55;thing 48;thing 49;thing 1;");
        Check.due("nine are as heavy", 9, () -> x.against(0, 1));
        Check.due("nine are not", -1, () -> x.against(0, 2));
        Check.due("eight", 8, () -> x.against(0, 3));
        Check.due("nine are heavier", 9, () -> x.against(0, 4));
        Check.due("one is heavier", 1, () -> x.against(1, 0));
        Check.due("of it", 1, () -> x.against(5, 5));
        Check.due("six", 6, () -> x.against(5, 0));
        Check.work(x, "feed 0 1;");
        Check.due("as now", 8, () -> x.against(0, 2));
    }

    private static void status() {
        Check.says("How many calls were refused: 0 NoSuchElementException, 1 IllegalArgumentException; "
            + "NONE for others. (No IMAGE keeps it.)");
        LeaningMarket x = Check.open("thing 5;");
        Check.due("none", 0, () -> x.status(0));
        Check.due("none", 0, () -> x.status(1));
        Check.outcome(() -> x.thing(1, 0));
        Check.outcome(() -> x.told(11));
        Check.outcome(() -> x.told(11));
        x.image();
        Check.outcome(() -> x.cry(0, 0));
        Check.outcome(() -> x.told(-1));
        Check.due("no such", 2, () -> x.status(0));
        Check.due("illegal", 3, () -> x.status(1));
        x.restore();
        Check.work(x, "day;tip 0;");
        x.undo();
        Check.market(x, "x");
        Check.market(x, "thing 6;");
        Check.due("nothing takes it back: no such", 2, () -> x.status(0));
        Check.due("nothing takes it back: illegal", 3, () -> x.status(1));
        for (int what : new int[] {2, -1, Integer.MIN_VALUE, Integer.MAX_VALUE}) {
            Check.due("others " + what, -1, () -> x.status(what));
        }
        Check.due("none of which is refused", 3, () -> x.status(1));
    }

    /** The market and each of the calls is one of 512. */
    private static void calls() {
        Check.says("An object is used for at most 512 calls after it has been made; what later calls answer is free.");
        LeaningMarket x = new LeaningMarket();
        Check.put(x, "thing 7;");
        x.market(8);
        for (int call = 3; call < 512; call++) {
            int edge = EDGES[call % EDGES.length];
            Check.due("call " + call, Check.ILLEGAL, () -> x.told(edge));
        }
        Check.due("call 512", 509, () -> x.status(1));
    }
}
