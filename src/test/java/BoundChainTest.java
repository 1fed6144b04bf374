/** The bounds of promises 15 to 18 and 29: CHAINS, RINGS, MEND. */
public final class BoundChainTest {
    public static void main(String[] args) {
        chains();
        greatest();
        rings();
        fattestOfAll();
        withoutChain();
        withoutRing();
        fat();
        mend();
        leastBits();
        above();
        Check.end();
    }

    private static String things(int many) {
        return "thing 1;".repeat(many);
    }

    private static void worth(LeaningMarket x, int thing, int other, long up, long down) {
        Check.due(thing + " by " + other + " above", up, () -> x.worth(thing, other, 0));
        Check.due(thing + " by " + other + " below", down, () -> x.worth(thing, other, 1));
    }

    private static void fattest(LeaningMarket x, long up, long down) {
        Check.due("fattest above", up, () -> x.fattest(0));
        Check.due("fattest below", down, () -> x.fattest(1));
    }

    private static void chains() {
        Check.says("A of the first is the one, A of each next is B of the one ahead, B of the last is the other one, "
            + "no THING is come to twice; its WORTH: all its M multiplied, by all its N multiplied.");
        // By 0, 1, 0, 1, 2 it would be more: 0 is come to twice.
        LeaningMarket x = Check.open(things(4) + "cry 0 1 1 5;cry 1 1 0 7;cry 1 2 2 3;");
        worth(x, 0, 2, 15, 2);
        worth(x, 1, 2, 3, 2);
        worth(x, 1, 0, 7, 1);
        // There is no way back from 2, and none to 3.
        worth(x, 2, 0, 0, 1);
        worth(x, 0, 3, 0, 1);
        // By 0, 1, 3, 1, 2 it would be more, too: 1 is come to twice.
        LeaningMarket y = Check.open(things(4) + "cry 0 1 1 1;cry 1 1 3 9;cry 3 1 1 9;cry 1 9 2 1;");
        worth(y, 0, 2, 1, 9);
        StringBuilder all = new StringBuilder(things(8));
        for (int i = 0; i < 7; i++) {
            all.append("cry ").append(i).append(" 8 ").append(i + 1).append(" 9;");
        }
        LeaningMarket longest = Check.open(all.toString());
        worth(longest, 0, 7, 4782969, 2097152);
        worth(longest, 7, 0, 0, 1);
    }

    private static void greatest() {
        Check.says("WORTH of a THING by another one: the greatest of any CHAIN from it to that.");
        // 8 by 9 and 7 by 8, the greatest last and first.
        LeaningMarket x = Check.open(things(2) + "cry 0 8 1 7;cry 0 9 1 8;");
        worth(x, 0, 1, 8, 9);
        LeaningMarket y = Check.open(things(2) + "cry 0 9 1 8;cry 0 8 1 7;");
        worth(y, 0, 1, 8, 9);
        // 3 by 2 at once; by way of 1 it is 4 by 3, then 2 by 1.
        LeaningMarket z = Check.open(things(3) + "cry 0 2 2 3;cry 0 3 1 2;cry 1 1 2 2;");
        worth(z, 0, 2, 3, 2);
        LeaningMarket w = Check.open(things(3) + "cry 0 2 2 3;cry 0 1 1 1;cry 1 1 2 2;");
        worth(w, 0, 2, 2, 1);
    }

    private static void rings() {
        Check.says("RING: likewise, from a THING back to it (no other one is come to twice).");
        // 0, 1, 2, 1, 0 comes to 1 twice: 6 and 12, but not 72.
        LeaningMarket x = Check.open(things(3) + "cry 0 1 1 2;cry 1 1 0 3;cry 1 1 2 3;cry 2 1 1 4;");
        fattest(x, 12, 1);
        StringBuilder all = new StringBuilder(things(8));
        for (int i = 0; i < 8; i++) {
            all.append("cry ").append(i).append(" 1 ").append((i + 1) % 8).append(" 9;");
        }
        LeaningMarket longest = Check.open(all.toString());
        fattest(longest, 43046721, 1);
        Check.due("all eight", 8, longest::fat);
        // Two the same way are no ring.
        LeaningMarket same = Check.open(things(2) + "cry 0 1 1 2;cry 0 1 1 3;");
        fattest(same, 0, 1);
    }

    private static void fattestOfAll() {
        Check.says("FATTEST: the greatest WORTH of any RING.");
        // Rings of 8 by 9, of 9 by 8 and of 1, in any order; the greatest is not the shortest.
        LeaningMarket x = Check.open(things(7) + "cry 0 9 1 8;cry 1 1 0 1;cry 2 8 3 9;cry 3 1 4 1;cry 4 1 2 1;"
            + "cry 5 1 6 1;cry 6 1 5 1;");
        fattest(x, 9, 8);
        LeaningMarket y = Check.open(things(4) + "cry 0 8 1 9;cry 1 1 0 1;cry 2 9 3 8;cry 3 1 2 1;");
        fattest(y, 9, 8);
        LeaningMarket lean = Check.open(things(4) + "cry 0 9 1 7;cry 1 1 0 1;cry 2 9 3 8;cry 3 1 2 1;");
        fattest(lean, 8, 9);
    }

    private static void withoutChain() {
        Check.says("WORTH of a THING by another one (not it): above (part 0), below (part 1), in least terms; "
            + "0 by 1 without a CHAIN.");
        LeaningMarket x = Check.open(things(3) + "cry 0 6 1 9;cry 1 4 2 6;");
        worth(x, 0, 1, 3, 2);
        worth(x, 0, 2, 9, 4);
        worth(x, 1, 0, 0, 1);
        LeaningMarket one = Check.open(things(2) + "cry 0 9 1 9;");
        worth(one, 0, 1, 1, 1);
        Check.refused("not it", x, Check.ILLEGAL, () -> x.worth(0, 0, 0));
        for (int part : new int[] {2, -1, Integer.MIN_VALUE, Integer.MAX_VALUE}) {
            Check.due("part " + part, Check.ILLEGAL, () -> x.worth(0, 1, part));
        }
        Check.due("counted", 5, () -> x.status(1));
    }

    private static void withoutRing() {
        Check.says("FATTEST: above (part 0), below (part 1), in least terms; 0 by 1 without a RING.");
        LeaningMarket none = new LeaningMarket();
        fattest(none, 0, 1);
        LeaningMarket chain = Check.open(things(3) + "cry 0 1 1 9;cry 1 1 2 9;cry 0 1 2 9;");
        fattest(chain, 0, 1);
        LeaningMarket x = Check.open(things(2) + "cry 0 6 1 9;cry 1 4 0 6;");
        fattest(x, 9, 4);
        LeaningMarket lean = Check.open(things(2) + "cry 0 9 1 1;cry 1 9 0 1;");
        fattest(lean, 1, 81);
        for (int part : new int[] {2, -1, Integer.MIN_VALUE, Integer.MAX_VALUE}) {
            Check.due("part " + part, Check.ILLEGAL, () -> x.fattest(part));
        }
        Check.due("counted", 4, () -> x.status(1));
    }

    private static void fat() {
        Check.says("FAT is a RING of WORTH above 1.");
        LeaningMarket just = Check.open(things(2) + "cry 0 8 1 9;cry 1 9 0 8;");
        Check.due("1 is not", -1, just::fat);
        Check.due("nothing must be gone", 0, just::mend);
        LeaningMarket above = Check.open(things(2) + "cry 0 8 1 9;cry 1 8 0 8;");
        Check.due("9 by 8 is", 2, above::fat);
        Check.due("one must be gone", 1, above::mend);
        LeaningMarket below = Check.open(things(2) + "cry 0 9 1 8;cry 1 8 0 8;");
        Check.due("8 by 9 is not", -1, below::fat);
        Check.says("How many CRIES the shortest FAT RING has; NONE.");
        LeaningMarket none = new LeaningMarket();
        Check.due("none", -1, none::fat);
        // Two of 1 by 1, three of 2 by 1, four of 9 by 1.
        LeaningMarket x = Check.open(things(4) + "cry 0 1 1 1;cry 1 1 0 1;cry 1 1 2 1;cry 2 1 0 2;cry 2 1 3 1;cry 3 1 0 9;");
        Check.due("the shortest that is fat", 3, x::fat);
        Check.work(x, "tip 3;");
        Check.due("then a longer one", 4, x::fat);
    }

    private static void mend() {
        Check.says("MEND: the fewest CRIES that must be gone so that no RING is FAT;");
        LeaningMarket none = new LeaningMarket();
        Check.due("none", 0, none::mend);
        // Rings 0-1 and 0-2, each by its own two or by the one in both: none is, so two.
        LeaningMarket x = Check.open(things(3) + "cry 0 1 1 2;cry 1 1 0 1;cry 0 1 2 2;cry 2 1 0 1;");
        Check.due("two", 5, x::mend);
        Check.work(x, "tip 0;");
        Check.due("one is left", 2, x::mend);
        Check.work(x, "tip 1;");
        Check.due("none is left", 0, x::mend);
        // The third cry is in both rings.
        LeaningMarket y = Check.open(things(3) + "cry 0 1 1 2;cry 0 1 2 2;cry 1 1 0 1;cry 2 1 1 1;");
        Check.due("one that is in both", 4, y::mend);
        // Five rings of two: as many as ten cries can have.
        StringBuilder five = new StringBuilder(things(8));
        for (int i = 1; i <= 5; i++) {
            five.append("cry 0 1 ").append(i).append(" 2;");
        }
        for (int i = 1; i <= 5; i++) {
            five.append("cry ").append(i).append(" 1 0 1;");
        }
        LeaningMarket most = Check.open(five.toString());
        Check.due("five", 31, most::mend);
    }

    private static void leastBits() {
        Check.says("of as few the least bits.");
        LeaningMarket x = Check.open(things(2) + "cry 0 9 1 1;cry 1 1 0 2;cry 0 1 1 1;");
        // Cries 1 and 2 are a fat ring, cries 0 and 1 none.
        Check.due("the lesser", 2, x::mend);
        LeaningMarket y = Check.open(things(4) + "cry 0 9 1 1;cry 2 9 3 1;cry 3 1 2 1;cry 2 1 3 2;cry 1 1 0 2;cry 0 1 1 1;");
        // Rings 2, 3 and 4, 5: bits 4 and 16.
        Check.due("the lesser of both", 20, y::mend);
        // 0 to 1 three times, back once: the one back is fewer, though its bits are more.
        LeaningMarket z = Check.open(things(2) + "cry 0 1 1 2;cry 0 1 1 3;cry 0 1 1 4;cry 1 1 0 1;");
        Check.due("as few come first", 8, z::mend);
    }

    private static void above() {
        Check.says("THINGS (bits) of which it follows by a CHAIN, that one of them is as heavy as one of a THING, "
            + "or heavier (WORTH of 1 or more; not that one).");
        // 0 by 1: 1; 2 by 1: 8 by 9; 3 by 1: 9 by 8; 1 by 3: 1.
        LeaningMarket x = Check.open(things(4) + "cry 0 9 1 9;cry 2 9 1 8;cry 3 8 1 9;cry 1 1 3 1;");
        Check.due("of 1, not it by its ring", 1 + 8, () -> x.above(1));
        Check.due("of 3, by chains of 1 and 8 by 9", 1 + 2, () -> x.above(3));
        Check.due("of 0", 0, () -> x.above(0));
        LeaningMarket two = Check.open(things(3) + "cry 0 1 1 2;cry 1 2 2 1;");
        Check.due("1 by both", 1, () -> two.above(2));
        LeaningMarket one = Check.open("thing 5;");
        Check.due("one thing", 0, () -> one.above(0));
        Check.due("none such", Check.NO_SUCH, () -> one.above(1));
        LeaningMarket none = new LeaningMarket();
        Check.due("no thing", Check.NO_SUCH, () -> none.above(0));
    }
}
