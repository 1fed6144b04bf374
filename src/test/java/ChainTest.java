/** Promises 15 to 18, 29: chains, rings, what must be gone. */
public final class ChainTest {
    public static void main(String[] args) {
        chains();
        rings();
        mending();
        above();
        greatest();
        Check.end();
    }

    private static void worth(LeaningMarket x, int thing, int other, long up, long down) {
        Check.due("15: " + thing + " by " + other + " above", up, () -> x.worth(thing, other, 0));
        Check.due("15: " + thing + " by " + other + " below", down, () -> x.worth(thing, other, 1));
    }

    private static void fattest(LeaningMarket x, long up, long down) {
        Check.due("16: above", up, () -> x.fattest(0));
        Check.due("16: below", down, () -> x.fattest(1));
    }

    private static void chains() {
        // Two of 0 are 3 of 1; 4 of 1 are 6 of 2; one of 0 is 2 of 2; one of 2 is 1 of 0.
        LeaningMarket x = Check.open("thing 1;thing 1;thing 1;thing 1;cry 0 2 1 3;cry 1 4 2 6;cry 0 1 2 2;cry 2 1 0 1;");
        worth(x, 0, 1, 3, 2);
        worth(x, 0, 2, 9, 4);
        worth(x, 1, 2, 3, 2);
        worth(x, 1, 0, 3, 2);
        worth(x, 2, 0, 1, 1);
        // A ring on the way is no chain: 2, 0, 1, and not 2, 0, 2, 0, 1.
        worth(x, 2, 1, 3, 2);
        worth(x, 0, 3, 0, 1);
        worth(x, 3, 0, 0, 1);
        Check.due("15: not it", Check.ILLEGAL, () -> x.worth(0, 0, 0));
        Check.due("15: another part", Check.ILLEGAL, () -> x.worth(0, 1, 2));
        Check.due("15: another part", Check.ILLEGAL, () -> x.worth(0, 1, -1));
        Check.due("15: no such thing", Check.NO_SUCH, () -> x.worth(4, 0, 0));
        Check.due("15: no such thing", Check.NO_SUCH, () -> x.worth(0, 4, 0));
        Check.due("15: that comes first", Check.NO_SUCH, () -> x.worth(4, 4, 7));
    }

    private static void rings() {
        LeaningMarket none = Check.open("thing 1;thing 1;cry 0 1 1 9;");
        fattest(none, 0, 1);
        Check.due("17: none", -1, none::fat);
        Check.due("18: none", 0, none::mend);
        LeaningMarket lean = Check.open("thing 1;thing 1;thing 1;cry 0 2 1 3;cry 1 3 0 2;cry 1 9 2 1;cry 2 1 1 8;");
        fattest(lean, 1, 1);
        Check.due("17: 1 is not above 1", -1, lean::fat);
        Check.due("18: so nothing must be gone", 0, lean::mend);
        // 0, 1, 2, 3 by 16; 0, 1 by 1.5.
        LeaningMarket x = Check.open("thing 1;thing 1;thing 1;thing 1;"
            + "cry 0 1 1 2;cry 1 1 2 2;cry 2 1 3 2;cry 3 1 0 2;cry 1 4 0 3;");
        fattest(x, 16, 1);
        Check.due("17: the shortest", 2, x::fat);
        Check.due("18: the one in both", 1, x::mend);
        Check.work(x, "tip 4;");
        Check.due("17: the longer one", 4, x::fat);
        Check.work(x, "tip 0;");
        Check.due("17: none is left", -1, x::fat);
        Check.due("16: another part", Check.ILLEGAL, () -> x.fattest(2));
        Check.due("16: another part", Check.ILLEGAL, () -> x.fattest(-1));
    }

    private static void mending() {
        // Two rings apart from each other: the least bits of either.
        LeaningMarket x = Check.open("thing 1;thing 1;thing 1;thing 1;"
            + "cry 2 1 3 1;cry 0 1 1 1;cry 1 1 0 2;cry 3 1 2 2;");
        Check.due("18: two", 3, x::mend);
        // Cries alike: all that go one way must be gone.
        LeaningMarket y = Check.open("thing 1;thing 1;cry 0 1 1 2;cry 0 1 1 2;cry 0 1 1 3;cry 1 1 0 1;");
        Check.due("18: the one way back", 8, y::mend);
        LeaningMarket z = Check.open("thing 1;thing 1;cry 0 1 1 2;cry 0 1 1 2;cry 0 3 1 1;cry 1 1 0 1;cry 1 1 0 1;");
        Check.due("18: of as few the least bits", 3, z::mend);
    }

    private static void above() {
        LeaningMarket x = Check.open("thing 1;thing 1;thing 1;thing 1;"
            + "cry 0 2 1 2;cry 1 1 2 3;cry 2 1 1 1;cry 3 3 2 1;cry 2 2 3 1;");
        Check.due("29: of 0", 0, () -> x.above(0));
        Check.due("29: of 1", 5, () -> x.above(1));
        // 1 by 3, and 0 by 3; 3 by 1/3.
        Check.due("29: of 2", 3, () -> x.above(2));
        // 2 by 1/2, 1 by 3/2, 0 by 3/2.
        Check.due("29: of 3", 3, () -> x.above(3));
        Check.due("29: no such thing", Check.NO_SUCH, () -> x.above(4));
        Check.due("29: no such thing", Check.NO_SUCH, () -> x.above(-1));
    }

    /** The longest ring with the greatest numbers. */
    private static void greatest() {
        StringBuilder up = new StringBuilder(Check.times(8, "thing 1;"));
        StringBuilder down = new StringBuilder(Check.times(8, "thing 1;"));
        for (int i = 0; i < 8; i++) {
            up.append("cry ").append(i).append(" 1 ").append((i + 1) % 8).append(" 9;");
            down.append("cry ").append(i).append(" 9 ").append((i + 1) % 8).append(" 1;");
        }
        LeaningMarket x = Check.open(up.toString());
        fattest(x, 43046721, 1);
        worth(x, 0, 7, 4782969, 1);
        Check.due("17: eight", 8, x::fat);
        Check.due("18: any one, the first", 1, x::mend);
        LeaningMarket y = Check.open(down.toString());
        fattest(y, 1, 43046721);
        worth(y, 3, 2, 1, 4782969);
        Check.due("17: none", -1, y::fat);
    }
}
