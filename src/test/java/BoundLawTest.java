/** The bounds of promises 4 and 13 and of a LAW's text. */
public final class BoundLawTest {
    /** 2 to the 31st, which wraps to the least number there is. */
    private static final String LEAST = "(256*256*256*128)";

    public static void main(String[] args) {
        bytes();
        nothingMore();
        without();
        wear();
        wearOfADay();
        numbers();
        names();
        sumsAndProducts();
        leastAndMost();
        wrapping();
        cutting();
        leaving();
        byNought();
        lengths();
        faults();
        would();
        Check.end();
    }

    private static void law(String text, long want, long fault) {
        LeaningMarket x = new LeaningMarket();
        Check.due(text, want, () -> Check.law(x, text));
        Check.due("fault of " + text, fault, x::fault);
    }

    private static void wears(String text, int want) {
        LeaningMarket x = new LeaningMarket();
        Check.due(text, 1, () -> Check.law(x, text));
        Check.due("wear by " + text, want, () -> x.would(11, 22, 3, 4, 55, 6, 7));
    }

    private static void bytes() {
        Check.says("A LAW is a text of up to 150 bytes");
        wears("1+" + " ".repeat(147) + "6", 7);
        wears("0".repeat(149) + "6", 6);
        wears("7" + "+1-1".repeat(37) + " ", 7);
        wears("7" + " ".repeat(149), 7);
        law("1+" + " ".repeat(148), -9, 150);
        LeaningMarket x = new LeaningMarket();
        Check.put(x, "7" + " ".repeat(159));
        Check.refused("151 bytes", x, Check.ILLEGAL, () -> x.law(151));
        Check.due("150 bytes of them", 1, () -> x.law(150));
    }

    private static void nothingMore() {
        Check.says("E, at the end nothing more;");
        law("1 1", -9, 2);
        law("1;", -9, 1);
        law("(1))", -9, 3);
        law("1]", -9, 1);
        law("day day", -9, 4);
        law("1  ", 1, -1);
    }

    private static void without() {
        Check.says("without: weighed / 4.");
        LeaningMarket x = new LeaningMarket();
        int[][] want = {{0, 0}, {3, 0}, {4, 1}, {7, 1}, {79, 19}, {80, 20}, {83, 20}, {84, 20}, {999, 20}};
        for (int[] pair : want) {
            Check.due("weighed " + pair[0], pair[1], () -> x.would(60, pair[0], 10, 7, 300, 18, 9));
        }
        Check.law(x, "5");
        Check.due("a law", 5, () -> x.would(1, 80, 0, 0, 0, 0, 0));
        x.market(0);
        Check.due("without again", 20, () -> x.would(1, 80, 0, 0, 0, 0, 0));
    }

    private static void wear() {
        Check.says("what comes out, 0 at least, 20 at most");
        wears("0-1", 0);
        wears("0-999*999", 0);
        wears("0", 0);
        wears("1", 1);
        wears("19", 19);
        wears("20", 20);
        wears("21", 20);
        wears("999*999", 20);
    }

    private static void wearOfADay() {
        Check.says("WEAR of a THING in a DAY:");
        LeaningMarket x = Check.open("thing 60;");
        Check.law(x, "21");
        Check.due("wear now", 20, () -> x.thing(0, 4));
        Check.work(x, "day;");
        Check.due("20 lighter", 40, () -> x.thing(0, 0));
        Check.law(x, "0-21");
        Check.due("no wear", 0, () -> x.thing(0, 4));
        Check.work(x, "day;");
        Check.due("no lighter, nor heavier", 40, () -> x.thing(0, 0));
    }

    private static void numbers() {
        Check.says("U: N (0 to 999)");
        wears("0+3", 3);
        wears("999/999", 1);
        wears("999-998", 1);
        law("1000", -8, 0);
        law("2+ 1000", -8, 3);
        law("4294967297", -8, 0);
        law("18446744073709551617", -8, 0);
        law("-1", -9, 0);
    }

    private static void names() {
        Check.says("\"weight\" (by now), \"weighed\" (how often it was, on any pan, by now), \"cried\" "
            + "(CRIES there are in which it is), \"thing\" (its number), \"day\", \"lean\" (by now), \"play\"");
        String market = "thing 5;thing 9;thing 7;cry 2 1 1 1;beam 4 3;";
        now(market, "feed 0 7;", "weight", 12, 9, 7);
        // 5-5 to 9: right down; 9-5 to 5: level; 9-5 to 7: level; 7-5 to 9: right down.
        now(market, "weigh 0 1 1 1;weigh 1 1 0 1;weigh 1 1 2 1;weigh 2 1 1 1;", "weighed", 2, 4, 2);
        now(market, "weigh 0 1 1 1;weigh 0 1 1 1;", "weighed", 1, 1, 0);
        now(market, "", "cried", 0, 1, 1);
        now(market, "weigh 0 1 1 1;", "cried", 1, 2, 1);
        now(market, "weigh 0 1 1 1;tip 0;", "cried", 1, 1, 0);
        now(market, "day;", "thing", 0, 1, 2);
        now(market, "", "day", 0, 0, 0);
        now(market, "day;day;", "day", 2, 2, 2);
        now(market, "", "lean", 4, 4, 4);
        now(market, "turn;", "lean", 14, 14, 14);
        now(market, "turn;", "play", 3, 3, 3);
    }

    private static void now(String market, String work, String text, int... want) {
        LeaningMarket x = Check.open(market);
        Check.work(x, work);
        Check.law(x, text);
        for (int i = 0; i < want.length; i++) {
            int thing = i;
            Check.due(text + " of thing " + i + " behind " + work, want[i], () -> x.thing(thing, 4));
        }
    }

    private static void sumsAndProducts() {
        Check.says("E: T { + or - T }. T: U { * or / or % U }.");
        wears("5", 5);
        wears("9-4-3", 2);
        wears("9-4+3", 8);
        wears("2+3*4", 14);
        wears("40/4/5", 2);
        wears("40/4*2-3", 17);
        wears("19%10*2", 18);
        wears("3*19%10", 7);
        wears("20-2*3-4", 10);
        law("2*x", -9, 2);
        law("2+x", -9, 2);
        law("2*x*y", -9, 2);
        law("2+x+y", -9, 2);
        law("2*1000*x", -8, 2);
        law("2+3/", -9, 4);
        law("2%;", -9, 2);
    }

    private static void leastAndMost() {
        Check.says("\"least\" \"[\" E \",\" E \"]\", \"most\" \"[\" E \",\" E \"]\", or \"(\" E \")\"");
        wears("least[3,4]", 3);
        wears("least[4,3]", 3);
        wears("least[4,4]", 4);
        wears("most[3,4]", 4);
        wears("most[4,3]", 4);
        wears("most[0-4,0-3]+9", 6);
        wears("least[" + LEAST + ",1]+4-" + LEAST, 4);
        wears("(4)", 4);
        // As many values wait at one time as can: three by each of six, and three.
        wears("1+1*least[15,".repeat(6) + "1+1*5" + "]".repeat(6), 12);
        wears("1+1*most[10,".repeat(6) + "1+1*2" + "]".repeat(6), 16);
        wears("9-1*(".repeat(6) + "9-1*4" + ")".repeat(6), 5);
        law("least[1]", -9, 7);
        law("least[,1]", -9, 6);
        law("most[1,]", -9, 7);
        law("least(1,2)", -9, 5);
        law("most[1,2)", -9, 8);
        law("(1]", -9, 2);
        law("()", -9, 1);
    }

    private static void wrapping() {
        Check.says("Values are whole numbers of 32 bits that wrap");
        wears(LEAST, 0);
        wears(LEAST + "-1", 20);
        wears(LEAST + "-1+1", 0);
        wears("0-" + LEAST, 0);
        wears("256*256*256*256+3", 3);
        wears("(256*256*256*128-1)*2+5", 3);
        wears("most[" + LEAST + "-1,7]/999/999/999", 2);
    }

    private static void cutting() {
        Check.says("/ cuts,");
        wears("7/2", 3);
        wears("1/2", 0);
        wears("9+(0-7)/2", 6);
        wears("9+7/(0-2)", 6);
        wears("9+(0-1)/2", 9);
        wears(LEAST + "/(0-1)", 0);
        wears(LEAST + "/(0-1)-1", 20);
    }

    private static void leaving() {
        Check.says("% leaves (with the sign of what is divided)");
        wears("7%4", 3);
        wears("8%4", 0);
        wears("9+(0-7)%4", 6);
        wears("9+7%(0-4)", 12);
        wears("9+(0-7)%(0-4)", 6);
        wears("3+" + LEAST + "%(0-1)", 3);
    }

    private static void byNought() {
        Check.says("by 0 both are 0.");
        wears("9/0", 0);
        wears("9%0", 0);
        wears("5+(0-9)/0", 5);
        wears("5+9%0", 5);
        wears("5+0/0+0%0", 5);
        wears("5+9/(cried-3)", 5);
        wears("5+9%(cried-3)", 5);
    }

    private static void lengths() {
        Check.says("Likewise the LAW (n to 150): 1.");
        LeaningMarket x = Check.open("thing 50;");
        Check.due("a law", 1, () -> Check.law(x, "6"));
        Check.put(x, "9" + " ".repeat(19));
        int[] lengths = {-1, 21, 150, 151, Integer.MIN_VALUE, Integer.MAX_VALUE};
        for (int n : lengths) {
            Check.refused("n " + n, x, Check.ILLEGAL, () -> x.law(n));
        }
        Check.due("the law stays", 6, () -> x.thing(0, 4));
        Check.due("the tape was as it is", 1, () -> x.law(20));
        Check.due("a law", 9, () -> x.thing(0, 4));
        Check.due("empty then", 0, () -> x.count(1));
    }

    private static void faults() {
        Check.says("`int law(int n) throws IllegalArgumentException`: Likewise the LAW");
        LeaningMarket x = Check.open("thing 50;");
        Check.law(x, "6");
        Check.stays("n 0 is no law", x, -9, () -> x.law(0));
        Check.due("at 0", 0, x::fault);
        Check.stays("fault 1", x, -9, () -> Check.law(x, "1+"));
        Check.stays("fault 2", x, -8, () -> Check.law(x, "1000"));
        Check.stays("fault 3", x, -7, () -> Check.law(x, "((((((("));
        Check.due("the first bytes alone", 1, () -> {
            Check.put(x, "3+x");
            return x.law(1);
        });
        Check.due("a law", 3, () -> x.thing(0, 4));
        Check.due("no work", 0, () -> x.count(2));
    }

    private static void would() {
        Check.says("weight (1 to 60), weighed (0 to 999), cried (0 to 10), thing (0 to 7), day (0 to 300), "
            + "lean (0 to 18), play (0 to 9)");
        String[] names = {"weight", "weighed", "cried", "thing", "day", "lean", "play"};
        int[] least = {1, 0, 0, 0, 0, 0, 0};
        int[] most = {60, 999, 10, 7, 300, 18, 9};
        for (int i = 0; i < 7; i++) {
            LeaningMarket x = new LeaningMarket();
            Check.law(x, names[i] + "-" + most[i] + "+7");
            would(x, most, i, most[i], 7);
            would(x, least, i, most[i], 7);
            Check.law(x, names[i] + "-" + least[i] + "+5");
            would(x, least, i, least[i], 5);
            would(x, most, i, least[i], 5);
            would(x, least, i, least[i] - 1, Check.ILLEGAL);
            would(x, least, i, most[i] + 1, Check.ILLEGAL);
            would(x, least, i, Integer.MIN_VALUE, Check.ILLEGAL);
            would(x, least, i, Integer.MAX_VALUE, Check.ILLEGAL);
            Check.due("so many refused", 4, () -> x.status(1));
        }
    }

    private static void would(LeaningMarket x, int[] values, int at, int value, long want) {
        int[] v = values.clone();
        v[at] = value;
        Check.due(java.util.Arrays.toString(v), want, () -> x.would(v[0], v[1], v[2], v[3], v[4], v[5], v[6]));
    }
}
