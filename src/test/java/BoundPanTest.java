/** The bounds of promises 19 to 21 and 27: MATCH, FEWEST, LEVEL, SHARES. */
public final class BoundPanTest {
    public static void main(String[] args) {
        amounts();
        gap();
        bitsOfNoThings();
        fewest();
        fewestRange();
        level();
        levelOfNone();
        bound();
        share();
        shareRange();
        Check.end();
    }

    private static void match(LeaningMarket x, int things, int many, int gap) {
        Check.due("amounts by " + things, many, () -> x.match(things, 0));
        Check.due("gap by " + things, gap, () -> x.match(things, 1));
    }

    private static void amounts() {
        Check.says("amounts above 0 that are WEIGHTS of some of these together less those of some others of these, "
            + "or of none (each THING once): how many unlike ones");
        LeaningMarket x = Check.open("thing 5;thing 5;thing 8;");
        // 5; by both 5, 10 (5 less 5 is not above 0); with 8: 3, 5, 8, 13, by all 2, 3, 5, 8, 10, 13, 18.
        match(x, 1, 1, 1);
        match(x, 3, 2, 1);
        match(x, 5, 4, 1);
        match(x, 7, 7, 1);
        LeaningMarket same = Check.open("thing 60;".repeat(8));
        match(same, 255, 8, 1);
        LeaningMarket ones = Check.open("thing 1;".repeat(8));
        match(ones, 255, 8, 9);
        match(ones, 128, 1, 2);
    }

    private static void gap() {
        Check.says("the GAP: the least amount above 0 that is none of them.");
        LeaningMarket none = new LeaningMarket();
        match(none, 0, 0, 1);
        LeaningMarket x = Check.open("thing 1;thing 3;thing 9;thing 27;thing 60;thing 60;thing 60;thing 60;");
        match(x, 0, 0, 1);
        match(x, 1, 1, 2);
        match(x, 2, 1, 1);
        match(x, 15, 40, 41);
        // 40 about each of 0, 60, 120, 180, 240: from 1 to 280 none is left out.
        match(x, 255, 280, 281);
        LeaningMarket most = Check.open("thing 60;thing 60;thing 60;thing 60;thing 60;thing 1;thing 3;thing 9;");
        match(most, 224, 13, 14);
        match(most, 31, 5, 1);
    }

    private static void bitsOfNoThings() {
        Check.says("IllegalArgumentException: bits of no THINGS (so below).");
        LeaningMarket none = new LeaningMarket();
        for (int bits : new int[] {1, 128, 256, -1, Integer.MIN_VALUE, Integer.MAX_VALUE}) {
            Check.due("match by " + bits, Check.ILLEGAL, () -> none.match(bits, 0));
            Check.due("level by " + bits, Check.ILLEGAL, () -> none.level(bits, 0));
        }
        Check.due("counted", 12, () -> none.status(1));
        LeaningMarket three = Check.open("thing 1;thing 2;thing 3;");
        Check.due("all three", 6, () -> three.match(7, 0));
        for (int bits : new int[] {8, 9, 15, -8, Integer.MIN_VALUE + 1}) {
            Check.due("match by " + bits, Check.ILLEGAL, () -> three.match(bits, 1));
            Check.due("level by " + bits, Check.ILLEGAL, () -> three.level(bits, 1));
            Check.due("share by " + bits, Check.ILLEGAL, () -> three.share(0, bits, 1));
        }
        Check.refused("match", three, Check.ILLEGAL, () -> three.match(8, 0));
        LeaningMarket eight = Check.open("thing 1;".repeat(8));
        Check.due("all eight", 8, () -> eight.match(255, 0));
        Check.due("no ninth", Check.ILLEGAL, () -> eight.match(256, 0));
        Check.due("no ninth to lay", Check.ILLEGAL, () -> eight.level(256, 0));
        Check.due("no ninth to share", Check.ILLEGAL, () -> eight.share(0, 256, 0));
        Check.says("MATCH: 0 how many amounts, 1 the GAP.");
        for (int what : new int[] {2, -1, Integer.MIN_VALUE, Integer.MAX_VALUE}) {
            Check.due("what " + what, Check.ILLEGAL, () -> eight.match(1, what));
        }
        Check.due("counted", 7, () -> eight.status(1));
    }

    private static void fewest() {
        Check.says("FEWEST for n: the fewest THINGS in MATCH by which n is; of as few the least bits; NONE.");
        LeaningMarket x = Check.open("thing 10;thing 4;thing 6;thing 10;thing 2;");
        Check.due("one, of alike ones the first", 1, () -> x.fewest(10));
        Check.due("one, though two of least bits are", 4, () -> x.fewest(6));
        Check.due("two, of least bits: 10 and 4", 3, () -> x.fewest(14));
        Check.due("two: 10 less 2, or 6 and 2", 17, () -> x.fewest(8));
        Check.due("all", 31, () -> x.fewest(32));
        Check.due("none: more than all", -1, () -> x.fewest(33));
        Check.due("none: all are even", -1, () -> x.fewest(1));
        Check.work(x, "feed 4 1;");
        Check.due("as now", 18, () -> x.fewest(1));
    }

    private static void fewestRange() {
        Check.says("FEWEST for n (1 to 480), as bits.");
        LeaningMarket x = Check.open("thing 60;".repeat(8));
        Check.due("480", 255, () -> x.fewest(480));
        Check.due("420", 127, () -> x.fewest(420));
        Check.due("1", -1, () -> x.fewest(1));
        for (int n : new int[] {0, 481, -1, Integer.MIN_VALUE, Integer.MAX_VALUE}) {
            Check.due("n " + n, Check.ILLEGAL, () -> x.fewest(n));
        }
        Check.due("counted", 5, () -> x.status(1));
        LeaningMarket one = Check.open("thing 1;");
        Check.due("1 of 1", 1, () -> one.fewest(1));
        LeaningMarket none = new LeaningMarket();
        Check.due("without things", -1, () -> none.fewest(1));
        Check.due("480 without things", -1, () -> none.fewest(480));
    }

    private static void level(LeaningMarket x, int things, int apart, int pan) {
        Check.due("apart by " + things, apart, () -> x.level(things, 0));
        Check.due("pan by " + things, pan, () -> x.level(things, 1));
    }

    private static void level() {
        Check.says("all are laid on two pans so that WEIGHTS on both are apart by least; "
            + "the pan with the least THING (of alike ways that of least bits).");
        LeaningMarket x = Check.open("thing 7;thing 3;thing 4;thing 3;thing 1;");
        // One is laid alone, the other pan empty.
        level(x, 1, 7, 1);
        level(x, 16, 1, 16);
        level(x, 3, 4, 1);
        level(x, 7, 0, 1);
        level(x, 10, 0, 2);
        // 3 to 4 and 1: 2; 3 and 1 to 4: 0, the pan with thing 1.
        level(x, 22, 0, 18);
        // 9 to 9 can't be: 7 and 3 (bits 3, or 9), or 7 and 1 (bits 17), are apart from the others by 2.
        level(x, 31, 2, 3);
        LeaningMarket same = Check.open("thing 60;".repeat(8));
        level(same, 255, 0, 15);
        level(same, 254, 60, 14);
        level(same, 192, 0, 64);
    }

    private static void levelOfNone() {
        Check.says("LEVEL: 0 by how much they are apart, 1 that pan (bits); 0 both: of none.");
        LeaningMarket none = new LeaningMarket();
        level(none, 0, 0, 0);
        LeaningMarket x = Check.open("thing 7;thing 3;");
        level(x, 3, 4, 1);
        level(x, 0, 0, 0);
        for (int what : new int[] {2, -1, Integer.MIN_VALUE, Integer.MAX_VALUE}) {
            Check.due("what " + what, Check.ILLEGAL, () -> x.level(3, what));
            Check.due("of none, what " + what, Check.ILLEGAL, () -> x.level(0, what));
        }
        Check.due("counted", 8, () -> x.status(1));
    }

    private static void shares(LeaningMarket x, int things, int n, int... want) {
        for (int i = 0; i < want.length; i++) {
            int thing = i;
            Check.due("of " + n + " among " + things + " to " + i, want[i], () -> x.share(thing, things, n));
        }
    }

    private static void bound() {
        Check.says("levelled: no more than that each, no more than a bound, the greatest by which no more than n are given "
            + "(all, if they are no more).");
        LeaningMarket x = Check.open("thing 2;thing 10;thing 5;");
        shares(x, 7, 0, 0, 0, 0);
        shares(x, 7, 2, 0, 0, 0);
        shares(x, 7, 3, 1, 1, 1);
        shares(x, 7, 5, 1, 1, 1);
        shares(x, 7, 6, 2, 2, 2);
        shares(x, 7, 7, 2, 2, 2);
        shares(x, 7, 8, 2, 3, 3);
        shares(x, 7, 12, 2, 5, 5);
        shares(x, 7, 13, 2, 6, 5);
        shares(x, 7, 16, 2, 9, 5);
        shares(x, 7, 17, 2, 10, 5);
        shares(x, 7, 18, 2, 10, 5);
        shares(x, 7, 999, 2, 10, 5);
        LeaningMarket most = Check.open("thing 60;".repeat(8));
        Check.due("480", 60, () -> most.share(7, 255, 480));
        Check.due("479", 59, () -> most.share(7, 255, 479));
        Check.due("7", 0, () -> most.share(7, 255, 7));
        Check.due("8", 1, () -> most.share(7, 255, 8));
    }

    private static void share() {
        Check.says("by SHARES among told THINGS (0, if it is none of them).");
        LeaningMarket x = Check.open("thing 2;thing 10;thing 5;");
        shares(x, 5, 7, 2, 0, 5);
        shares(x, 2, 7, 0, 7, 0);
        shares(x, 0, 999, 0, 0, 0);
        shares(x, 6, 9, 0, 4, 4);
    }

    private static void shareRange() {
        Check.says("What a THING gets of n (0 to 999)");
        LeaningMarket x = Check.open("thing 2;thing 10;");
        Check.due("0", 0, () -> x.share(1, 3, 0));
        Check.due("999", 10, () -> x.share(1, 3, 999));
        for (int n : new int[] {1000, -1, Integer.MIN_VALUE, Integer.MAX_VALUE}) {
            Check.due("n " + n, Check.ILLEGAL, () -> x.share(1, 3, n));
            Check.due("none of them, n " + n, Check.ILLEGAL, () -> x.share(1, 1, n));
        }
        Check.due("counted", 8, () -> x.status(1));
    }
}
