/** Promises 9 to 14, 24 to 26, 28, 30, 31, 36: what is asked of the market as it stands, and reckoned without it. */
public final class AskTest {
    public static void main(String[] args) {
        told();
        things();
        cries();
        stands();
        ahead();
        falsely();
        sellers();
        even();
        heaviest();
        alike();
        against();
        status();
        Check.end();
    }

    private static void told() {
        LeaningMarket x = Check.open("thing 7;thing 3;thing 9;cry 0 1 1 2;cry 1 2 0 1;cry 1 3 0 1;beam 2 5;");
        int[] want = {3, 3, 0, 2, 5, 19, 2, 3, 0, 0, 0};
        for (int i = 0; i < want.length; i++) {
            int what = i;
            Check.due("9: told " + i, want[i], () -> x.told(what));
        }
        Check.due("9: another what", Check.ILLEGAL, () -> x.told(-1));
        Check.due("9: another what", Check.ILLEGAL, () -> x.told(11));
        LeaningMarket same = Check.open("thing 6;thing 3;cry 0 1 1 2;cry 1 2 0 1;");
        Check.due("9: as much is so", 0, () -> same.told(6));
    }

    private static void things() {
        LeaningMarket x = Check.open("thing 7;thing 3;cry 0 1 1 2;cry 1 2 0 1;");
        int[] want = {3, 3, 0, 3, 0};
        for (int i = 0; i < want.length; i++) {
            int what = i;
            Check.due("10: thing 1 " + i, want[i], () -> x.thing(1, what));
        }
        Check.due("10: another what", Check.ILLEGAL, () -> x.thing(1, 5));
        Check.due("10: another what", Check.ILLEGAL, () -> x.thing(1, -1));
        Check.due("10: no such thing", Check.NO_SUCH, () -> x.thing(2, 0));
        Check.due("10: no such thing", Check.NO_SUCH, () -> x.thing(-1, 0));
        Check.due("10: no such thing comes first", Check.NO_SUCH, () -> x.thing(2, 5));
        LeaningMarket law = Check.open("thing 50;beam 7 2;");
        Check.law(law, "weight/5+play");
        Check.due("10: wear", 12, () -> law.thing(0, 4));
    }

    private static void cries() {
        LeaningMarket x = Check.open("thing 7;thing 3;cry 1 5 0 6;");
        int[] want = {1, 5, 0, 6};
        for (int i = 0; i < 4; i++) {
            int what = i;
            Check.due("11: cry 0 " + i, want[i], () -> x.cry(0, what));
        }
        Check.due("11: another what", Check.ILLEGAL, () -> x.cry(0, 4));
        Check.due("11: another what", Check.ILLEGAL, () -> x.cry(0, -1));
        Check.due("11: no such cry", Check.NO_SUCH, () -> x.cry(1, 0));
        Check.due("11: no such cry", Check.NO_SUCH, () -> x.cry(-1, 0));
        Check.due("11: no such cry comes first", Check.NO_SUCH, () -> x.cry(1, 4));
    }

    private static void stands() {
        LeaningMarket x = Check.open("thing 6;thing 4;beam 12 3;");
        Check.due("12: 6+3 to 8", 0, () -> x.stands(0, 1, 1, 2));
        Check.due("12: 6+3 to 4", 1, () -> x.stands(0, 1, 1, 1));
        Check.due("12: 6+3 to 12, no more than play", 0, () -> x.stands(0, 1, 1, 3));
        Check.due("12: 6+3 to 16", 2, () -> x.stands(0, 1, 1, 4));
        Check.due("12: 4+3 to 6", 0, () -> x.stands(1, 1, 0, 1));
        Check.due("12: 4+3 to 12", 2, () -> x.stands(1, 1, 0, 2));
        Check.due("12: it by itself", 0, () -> x.stands(0, 9, 0, 9));
        Check.due("12: nine", 1, () -> x.stands(0, 9, 1, 9));
        Check.due("12: N below 1", Check.ILLEGAL, () -> x.stands(0, 0, 1, 1));
        Check.due("12: N above 9", Check.ILLEGAL, () -> x.stands(0, 10, 1, 1));
        Check.due("12: M below 1", Check.ILLEGAL, () -> x.stands(0, 1, 1, 0));
        Check.due("12: M above 9", Check.ILLEGAL, () -> x.stands(0, 1, 1, 10));
        Check.due("12: no such thing", Check.NO_SUCH, () -> x.stands(2, 1, 0, 1));
        Check.due("12: no such thing", Check.NO_SUCH, () -> x.stands(0, 1, 2, 1));
        Check.due("12: that comes first", Check.NO_SUCH, () -> x.stands(0, 0, -1, 1));
        LeaningMarket light = Check.open("thing 6;thing 6;beam 0 9;");
        Check.due("12: 9 less, no more than play", 0, () -> light.stands(0, 1, 1, 1));
        Check.due("9: asking changes nothing", 0, () -> light.told(10));
    }

    private static void ahead() {
        LeaningMarket x = Check.open("thing 20;thing 18;thing 18;cry 0 1 1 1;cry 1 1 0 1;");
        Check.law(x, "2-thing*2+day");
        // By day: thing 0 wears 2, 3, 4, ..; thing 1 wears 0, 1, 2, ..; thing 2 wears 0, 0, 0, 1, ..
        Check.due("14: none gone by", 56, () -> x.ahead(0, 0));
        Check.due("14: in 0 days", 0, () -> x.ahead(0, 1));
        Check.due("14: in 0 days", 2, () -> x.ahead(0, 2));
        Check.due("14: in 1 day", 54, () -> x.ahead(1, 0));
        Check.due("14: of alike ones the first", 0, () -> x.ahead(1, 1));
        Check.due("14: both are so", 0, () -> x.ahead(1, 2));
        Check.due("14: in 2 days", 15 + 17 + 18, () -> x.ahead(2, 0));
        Check.due("14: in 2 days", 2, () -> x.ahead(2, 1));
        Check.due("14: in 2 days", 1, () -> x.ahead(2, 2));
        Check.due("14: at last", 3, () -> x.ahead(99, 0));
        Check.due("14: nothing is changed", 56, () -> x.told(5));
        Check.due("14: nor the day", 0, () -> x.told(2));
        Check.due("14: days below 0", Check.ILLEGAL, () -> x.ahead(-1, 0));
        Check.due("14: days above 99", Check.ILLEGAL, () -> x.ahead(100, 0));
        Check.due("14: another what", Check.ILLEGAL, () -> x.ahead(1, 3));
        Check.due("14: another what", Check.ILLEGAL, () -> x.ahead(1, -1));
        LeaningMarket late = Check.open("thing 60;");
        Check.law(late, "day/302");
        for (int i = 0; i < 5; i++) {
            Check.work(late, "again 60[day;];");
        }
        Check.due("14: day 300", 300, () -> late.told(2));
        // Days 300 and 301 wear nothing, 302 to 304 one each.
        Check.due("14: beyond 300, too", 57, () -> late.ahead(5, 0));
        LeaningMarket none = new LeaningMarket();
        Check.due("14: without things", -1, () -> none.ahead(3, 1));
    }

    /** Promise 24. */
    private static void falsely() {
        LeaningMarket x = new LeaningMarket();
        int[][] want = {{1, -1}, {2, -1}, {3, 2}, {4, 3}, {12, 3}, {13, 4}, {39, 4}, {40, 5}, {120, 5}, {121, 6},
            {363, 6}, {364, 7}, {1092, 7}, {1093, 8}, {3279, 8}, {3280, 9}, {9840, 9}, {9841, 10}, {9999, 10},
        };
        for (int[] pair : want) {
            Check.due("24: of " + pair[0], pair[1], () -> x.falsely(pair[0]));
        }
        Check.due("24: of 0", Check.ILLEGAL, () -> x.falsely(0));
        Check.due("24: of 10000", Check.ILLEGAL, () -> x.falsely(10000));
    }

    /** Promise 25. */
    private static void sellers() {
        LeaningMarket x = new LeaningMarket();
        int[][] want = {{4, 3, 1, 0, 8}, {4, 5, 2, 1, 5}, {4, 4, 3, 0, 8}, {0, 0, 3, 0, 0}, {99, 99, 3, 0, 198},
            {0, 99, 2, 1, 99}, {99, 0, 1, 0, 198},
        };
        for (int[] row : want) {
            for (int i = 0; i <= 2; i++) {
                int what = i;
                Check.due("25: by " + row[0] + ", " + row[1] + ": " + i, row[2 + i],
                    () -> x.sellers(row[0], row[1], what));
            }
        }
        Check.due("25: v below 0", Check.ILLEGAL, () -> x.sellers(-1, 1, 0));
        Check.due("25: v above 99", Check.ILLEGAL, () -> x.sellers(100, 1, 0));
        Check.due("25: w below 0", Check.ILLEGAL, () -> x.sellers(1, -1, 0));
        Check.due("25: w above 99", Check.ILLEGAL, () -> x.sellers(1, 100, 0));
        Check.due("25: another what", Check.ILLEGAL, () -> x.sellers(1, 1, 3));
        Check.due("25: another what", Check.ILLEGAL, () -> x.sellers(1, 1, -1));
    }

    /** Promise 26. */
    private static void even() {
        LeaningMarket x = new LeaningMarket();
        long[][] want = {{0, 0, 1, 1}, {0, 16, 1, 1}, {1, 8, 0, 1}, {2, 8, 1, 2}, {2, 4, 3, 8}, {2, 1, 15, 128},
            {2, 0, 0, 1}, {12, 16, 0, 1}, {4, 8, 3, 8}, {11, 8, 0, 1}, {12, 8, 231, 1024},
            {12, 1, 924L * 11390625 / 4, 281474976710656L / 4},
        };
        for (long[] row : want) {
            Check.due("26: above " + row[0] + ", " + row[1], row[2], () -> x.even((int) row[0], (int) row[1], 0));
            Check.due("26: below " + row[0] + ", " + row[1], row[3], () -> x.even((int) row[0], (int) row[1], 1));
        }
        Check.due("26: n below 0", Check.ILLEGAL, () -> x.even(-1, 8, 0));
        Check.due("26: n above 12", Check.ILLEGAL, () -> x.even(13, 8, 0));
        Check.due("26: q below 0", Check.ILLEGAL, () -> x.even(2, -1, 0));
        Check.due("26: q above 16", Check.ILLEGAL, () -> x.even(2, 17, 0));
        Check.due("26: another part", Check.ILLEGAL, () -> x.even(2, 8, 2));
        Check.due("26: another part", Check.ILLEGAL, () -> x.even(2, 8, -1));
    }

    /** Promise 28. */
    private static void heaviest() {
        LeaningMarket x = Check.open("thing 7;thing 9;thing 9;");
        Check.due("28: the first of alike ones", 1, () -> x.heaviest(0));
        Check.due("28: its weight", 9, () -> x.heaviest(1));
        Check.work(x, "feed 0 5;");
        Check.due("28: as now", 0, () -> x.heaviest(0));
        Check.due("28: its weight now", 12, () -> x.heaviest(1));
        Check.due("28: another what", Check.ILLEGAL, () -> x.heaviest(2));
        Check.due("28: another what", Check.ILLEGAL, () -> x.heaviest(-1));
        LeaningMarket none = new LeaningMarket();
        Check.due("28: none", -1, () -> none.heaviest(0));
        Check.due("28: none", -1, () -> none.heaviest(1));
    }

    /** Promise 30. */
    private static void alike() {
        LeaningMarket x = Check.open("thing 7;thing 9;thing 3;thing 9;thing 9;thing 3;");
        Check.due("30: each once", 4, () -> x.alike(0));
        Check.due("30: the first", 13, () -> x.alike(1));
        LeaningMarket y = Check.open("thing 7;thing 9;");
        Check.due("30: none", 0, () -> y.alike(0));
        Check.due("30: none", -1, () -> y.alike(1));
        Check.work(y, "feed 0 2;");
        Check.due("30: as now", 1, () -> y.alike(1));
        Check.due("30: another what", Check.ILLEGAL, () -> y.alike(2));
        Check.due("30: another what", Check.ILLEGAL, () -> y.alike(-1));
    }

    /** Promise 31. */
    private static void against() {
        LeaningMarket x = Check.open("thing 6;thing 54;thing 55;thing 12;thing 60;");
        Check.due("31: nine are as heavy", 9, () -> x.against(0, 1));
        Check.due("31: nine are not", -1, () -> x.against(0, 2));
        Check.due("31: two", 2, () -> x.against(0, 3));
        Check.due("31: one", 1, () -> x.against(3, 0));
        Check.due("31: five", 5, () -> x.against(3, 4));
        Check.due("31: itself", 1, () -> x.against(4, 4));
        Check.due("31: no such thing", Check.NO_SUCH, () -> x.against(5, 0));
        Check.due("31: no such thing", Check.NO_SUCH, () -> x.against(0, 5));
        Check.due("31: no such thing", Check.NO_SUCH, () -> x.against(-1, 0));
    }

    /** Promise 36. */
    private static void status() {
        LeaningMarket x = new LeaningMarket();
        Check.due("36: none", 0, () -> x.status(0));
        Check.due("36: none", 0, () -> x.status(1));
        Check.outcome(() -> x.thing(0, 9));
        Check.outcome(() -> x.cry(0, 9));
        Check.outcome(() -> x.above(0));
        Check.outcome(() -> x.told(99));
        Check.due("36: no such", 3, () -> x.status(0));
        Check.due("36: illegal", 1, () -> x.status(1));
        Check.due("36: others", -1, () -> x.status(2));
        Check.due("36: others", -1, () -> x.status(-1));
        Check.market(x, "thing 1;");
        Check.due("36: a new market keeps it", 3, () -> x.status(0));
        Check.due("36: so it does", 1, () -> x.status(1));
        Check.work(x, "tip 0;");
        Check.market(x, "x");
        Check.due("36: neither refused steps nor faults count", 1, () -> x.status(1));
    }
}
