/** Promises 19 to 23, 27: pans, the beam's own lean and play, shares. */
public final class PanTest {
    public static void main(String[] args) {
        match();
        fewest();
        level();
        fits();
        look();
        share();
        Check.end();
    }

    private static void match() {
        LeaningMarket x = Check.open("thing 1;thing 3;thing 9;thing 27;thing 3;thing 60;");
        Check.due("19: of none", 0, () -> x.match(0, 0));
        Check.due("19: gap of none", 1, () -> x.match(0, 1));
        Check.due("19: 1, 2, 3, 4", 4, () -> x.match(3, 0));
        Check.due("19: gap 5", 5, () -> x.match(3, 1));
        Check.due("19: 1 to 40", 40, () -> x.match(15, 0));
        Check.due("19: gap 41", 41, () -> x.match(15, 1));
        Check.due("19: 3, 6", 2, () -> x.match(18, 0));
        Check.due("19: gap 1", 1, () -> x.match(18, 1));
        Check.due("19: told ones alone", 1, () -> x.match(32, 0));
        Check.due("19: all", 103, () -> x.match(63, 0));
        Check.due("19: all", 104, () -> x.match(63, 1));
        Check.due("19: bits of no things", Check.ILLEGAL, () -> x.match(64, 0));
        Check.due("19: bits of no things", Check.ILLEGAL, () -> x.match(-1, 0));
        Check.due("19: another what", Check.ILLEGAL, () -> x.match(1, 2));
        Check.due("19: another what", Check.ILLEGAL, () -> x.match(1, -1));
        LeaningMarket heavy = Check.open(Check.times(8, "thing 60;"));
        Check.due("19: by 60", 8, () -> heavy.match(255, 0));
        Check.due("19: bits of no things", Check.ILLEGAL, () -> heavy.match(256, 0));
    }

    private static void fewest() {
        LeaningMarket x = Check.open("thing 1;thing 3;thing 9;thing 27;thing 3;thing 10;");
        Check.due("20: one", 1, () -> x.fewest(1));
        Check.due("20: of as few the least bits", 2, () -> x.fewest(3));
        Check.due("20: one is fewer", 32, () -> x.fewest(10));
        Check.due("20: less, of least bits", 3, () -> x.fewest(2));
        Check.due("20: 9 less 3", 6, () -> x.fewest(6));
        Check.due("20: all", 63, () -> x.fewest(53));
        Check.due("20: none", -1, () -> x.fewest(54));
        Check.due("20: n below 1", Check.ILLEGAL, () -> x.fewest(0));
        Check.due("20: n above 480", Check.ILLEGAL, () -> x.fewest(481));
        LeaningMarket heavy = Check.open(Check.times(8, "thing 60;"));
        Check.due("20: 480", 255, () -> heavy.fewest(480));
        Check.due("20: 479", -1, () -> heavy.fewest(479));
        Check.due("20: 120", 3, () -> heavy.fewest(120));
    }

    private static void level(LeaningMarket x, int things, int apart, int pan) {
        Check.due("21: " + things + " apart", apart, () -> x.level(things, 0));
        Check.due("21: " + things + " pan", pan, () -> x.level(things, 1));
    }

    private static void level() {
        LeaningMarket x = Check.open("thing 5;thing 5;thing 4;thing 6;thing 1;");
        level(x, 0, 0, 0);
        level(x, 1, 5, 1);
        level(x, 16, 1, 16);
        level(x, 3, 0, 1);
        level(x, 6, 1, 2);
        // 5+5 to 4+6, or 5+5 the other pan: things 0 with 1; 10 to 10 in no other way with fewer bits.
        level(x, 15, 0, 3);
        // 1 is over: pans 10 and 11. Things 0 and 1, or 0, 2 and 4 (10), or 0 and 3 (11), ..
        level(x, 31, 1, 3);
        // Without thing 0 the pan is that with thing 1: 5+4 to 6+1 is 2, 5+1 to 4+6 4, 5 to 11 6, 5+6 to 5 6, 9..
        level(x, 30, 2, 6);
        Check.due("21: bits of no things", Check.ILLEGAL, () -> x.level(32, 0));
        Check.due("21: bits of no things", Check.ILLEGAL, () -> x.level(-1, 0));
        Check.due("21: another what", Check.ILLEGAL, () -> x.level(1, 2));
        Check.due("21: another what", Check.ILLEGAL, () -> x.level(1, -1));
    }

    private static void fits() {
        LeaningMarket x = Check.open("thing 12;thing 10;thing 12;");
        Check.due("22: no line", 190, () -> x.fits(0));
        Check.due("22: the first", 0, () -> x.fits(1));
        Check.book(x, "0 2 0;");
        // Level by LEAN L if |L - 9| is not above PLAY: 9 has 10 plays, 8 and 10 have 9, ..
        Check.due("22: level", 100, () -> x.fits(0));
        Check.due("22: the first, lean 0 and play 9", 9, () -> x.fits(1));
        Check.book(x, "0 2 0;0 1 1;");
        // |L - 9| <= P and L - 7 > P: P below L - 7, L from 9 on: 2 (0, 1), 10: 1, 2, then 2 each to 17, 18: 9.
        Check.due("22: two lines", 2 + 2 + 2 + 2 + 2 + 2 + 2 + 2 + 2 + 1, () -> x.fits(0));
        Check.due("22: the first", 90, () -> x.fits(1));
        Check.book(x, "0 1 2;1 0 1;");
        // 2 + L - 9 < 0 - P and 10 + L - 9 - 12 > P: none.
        Check.due("22: none", 0, () -> x.fits(0));
        Check.due("22: none", -1, () -> x.fits(1));
        Check.due("22: another what", Check.ILLEGAL, () -> x.fits(2));
        Check.due("22: another what", Check.ILLEGAL, () -> x.fits(-1));
        Check.book(x, "0 1 1;");
        int before = x.fits(0);
        Check.work(x, "feed 1 20;");
        // 12 + L - 9 - 30 is never above 0.
        Check.due("22: weights as now", 0, () -> x.fits(0));
        Check.due("22: that had been others", 65, () -> before);
    }

    private static void look() {
        LeaningMarket x = Check.open("thing 12;thing 10;thing 12;thing 60;");
        // 0, 1: left down by L - 7 above P: 65, right down by 7 - L above P: 28, level 97.
        // 0, 2: 100 level. 0, 3: always right down. 1, 2: the mirror of 0, 1.
        Check.due("23: the two", 1, () -> x.look(0));
        Check.due("23: at the worst", 97, () -> x.look(1));
        Check.book(x, "0 1 0;");
        // Of these 97 by 1, 2: L - 11 above P: 28, less those not level by 0, 1: .. 0, 2 splits likewise.
        int worst = worst(12, 10, 12, 12);
        Check.due("23: by the book", Math.min(worst, worst(12, 10, 10, 12)), () -> x.look(1));
        Check.due("23: another what", Check.ILLEGAL, () -> x.look(2));
        Check.due("23: another what", Check.ILLEGAL, () -> x.look(-1));
        LeaningMarket alone = Check.open("thing 5;");
        Check.due("23: not two", -1, () -> alone.look(0));
        Check.due("23: not two", -1, () -> alone.look(1));
        LeaningMarket none = Check.open("thing 60;thing 1;thing 2;");
        Check.book(none, "0 1 2;");
        Check.due("23: none fits, the first", 1, () -> none.look(0));
        Check.due("23: none is left", 0, () -> none.look(1));
    }

    /** Of the pairs by which a and b lie level, how many are left at the worst by c and d. */
    private static int worst(int a, int b, int c, int d) {
        int[] left = new int[3];
        for (int lean = 0; lean <= 18; lean++) {
            for (int play = 0; play <= 9; play++) {
                int more = c + lean - 9 - d;
                if (Math.abs(a + lean - 9 - b) <= play) {
                    left[more > play ? 1 : more < -play ? 2 : 0]++;
                }
            }
        }
        return Math.max(left[0], Math.max(left[1], left[2]));
    }

    private static void share() {
        LeaningMarket x = Check.open("thing 2;thing 10;thing 5;thing 7;");
        int[][] want = {{0, 0, 0, 0}, {3, 0, 0, 0}, {4, 1, 1, 1}, {7, 1, 1, 1}, {8, 2, 2, 2}, {11, 2, 3, 3},
            {13, 2, 3, 3}, {14, 2, 4, 4}, {17, 2, 5, 5}, {19, 2, 6, 5}, {21, 2, 7, 5}, {22, 2, 8, 5}, {23, 2, 9, 5},
            {24, 2, 10, 5}, {25, 2, 10, 5}, {999, 2, 10, 5},
        };
        for (int[] row : want) {
            for (int i = 0; i < 3; i++) {
                int thing = i;
                Check.due("27: of " + row[0] + " to " + i, row[1 + i], () -> x.share(thing, 15, row[0]));
            }
        }
        LeaningMarket heavy = Check.open("thing 60;thing 60;");
        Check.due("27: all", 60, () -> heavy.share(0, 3, 120));
        Check.due("27: one less each", 59, () -> heavy.share(0, 3, 119));
        Check.due("27: told ones alone", 7, () -> x.share(3, 9, 9));
        Check.due("27: it is none of them", 0, () -> x.share(1, 9, 9));
        Check.due("27: among none", 0, () -> x.share(1, 0, 9));
        Check.due("27: bits of no things", Check.ILLEGAL, () -> x.share(1, 16, 9));
        Check.due("27: bits of no things", Check.ILLEGAL, () -> x.share(1, -1, 9));
        Check.due("27: n below 0", Check.ILLEGAL, () -> x.share(1, 1, -1));
        Check.due("27: n above 999", Check.ILLEGAL, () -> x.share(1, 1, 1000));
        Check.due("27: no such thing comes first", Check.NO_SUCH, () -> x.share(4, 16, 1000));
        Check.due("27: no such thing", Check.NO_SUCH, () -> x.share(-1, 0, 0));
    }
}
