/** The bounds of promises 1 to 3 and of a MARKET's text, a test for each piece of the document that names one. */
public final class BoundMarketTest {
    private static final String TWO = "thing 1;thing 1;";

    public static void main(String[] args) {
        bytes();
        clauses();
        things();
        weights();
        cries();
        toldAhead();
        factors();
        beam();
        newObject();
        feedOrder();
        feedFull();
        firstBytes();
        anew();
        faultStays();
        lengths();
        Check.end();
    }

    private static void market(String text, long want, long fault) {
        LeaningMarket x = new LeaningMarket();
        Check.due(text, want, () -> Check.market(x, text));
        Check.due("fault of " + text, fault, x::fault);
    }

    private static void bytes() {
        Check.says("A MARKET is a text of up to 600 bytes");
        String blanks = " ".repeat(600 - 8 - 9);
        LeaningMarket x = new LeaningMarket();
        Check.due("600 bytes", 1, () -> Check.market(x, "thing 7;" + blanks + "beam 3 4;"));
        Check.due("its end counts: lean", 3, () -> x.told(3));
        Check.due("its end counts: play", 4, () -> x.told(4));
        market("thing 7;" + blanks + "beam 3 4 ", -9, 600);
        market("thing 7;" + blanks + "beam 3 44", -8, 598);
        market(" ".repeat(600), 0, -1);
    }

    private static void clauses() {
        Check.says("{ CLAUSE \";\" }, at most 60");
        String sixty = "thing 1;".repeat(8) + "cry 0 1 1 1;".repeat(10) + "beam0 0;".repeat(42);
        market("", 0, -1);
        market("beam 1 1;".repeat(60), 0, -1);
        market("beam 1 1;".repeat(61), -7, 540);
        market(sixty, 8, -1);
        market(sixty + " ".repeat(80), 8, -1);
        market(sixty + " beam 1 1;", -7, 521);
        market("beam0 0;".repeat(60) + "thing 1;", -7, 480);
        market(TWO + "beam0 0;".repeat(58) + "cry 0 1 1 1;", -7, 480);
        market(TWO + "beam0 0;".repeat(57) + "cry 0 1 1 1;", 2, -1);
        market("beam0 0;".repeat(59) + "thing 1", -9, 479);
    }

    private static void things() {
        Check.says("THINGS, numbered from 0 on, 8 at most");
        StringBuilder eight = new StringBuilder();
        for (int i = 0; i < 8; i++) {
            eight.append("thing ").append(11 + i).append(';');
        }
        LeaningMarket x = new LeaningMarket();
        Check.due("eight", 8, () -> Check.market(x, eight.toString()));
        for (int i = 0; i < 8; i++) {
            int thing = i;
            Check.due("thing " + i, 11 + i, () -> x.thing(thing, 1));
        }
        Check.due("no thing 8", Check.NO_SUCH, () -> x.thing(8, 1));
        Check.due("no thing -1", Check.NO_SUCH, () -> x.thing(-1, 1));
        market(eight + "  thing 1;", -7, 74);
        market(eight + "beam 0 0;thing 1;", -7, 81);
        market(eight + "thing", -7, 72);
        market(eight + "cry 0 1 7 1;", 8, -1);
    }

    private static void weights() {
        Check.says("WEIGHT W, 1 to 60");
        market("thing 0;", -8, 6);
        market("thing 1;", 1, -1);
        market("thing 60;", 1, -1);
        market("thing 61;", -8, 6);
        LeaningMarket x = Check.open("thing 1;thing 60;");
        Check.due("the least", 1, () -> x.thing(0, 0));
        Check.due("the most", 60, () -> x.thing(1, 0));
    }

    private static void cries() {
        Check.says("CRIES likewise, 10:");
        StringBuilder ten = new StringBuilder(TWO);
        for (int i = 0; i < 10; i++) {
            ten.append("cry 0 ").append(1 + i % 9).append(" 1 ").append(9 - i % 9).append(';');
        }
        LeaningMarket x = Check.open(ten.toString());
        Check.due("ten", 10, () -> x.told(1));
        for (int i = 0; i < 10; i++) {
            int cry = i;
            Check.due("N of cry " + i, 1 + i % 9, () -> x.cry(cry, 1));
            Check.due("M of cry " + i, 9 - i % 9, () -> x.cry(cry, 3));
        }
        Check.due("no cry 10", Check.NO_SUCH, () -> x.cry(10, 0));
        Check.due("no cry -1", Check.NO_SUCH, () -> x.cry(-1, 0));
        market(ten + " cry 0 1 1 1;", -7, 137);
        market(ten + "cry", -7, 136);
        market(ten + "thing 1;", 3, -1);
    }

    private static void toldAhead() {
        Check.says("both told ahead, not one;");
        market("cry 0 1 1 1;" + TWO, -8, 4);
        market("thing 1;cry 1 1 0 1;thing 1;", -8, 12);
        market("thing 1;cry 0 1 1 1;thing 1;", -8, 16);
        market(TWO + "cry 0 1 0 1;", -8, 24);
        market(TWO + "cry 1 1 1 1;", -8, 24);
        market(TWO + "cry 1 1 0 1;", 2, -1);
        market("thing 1;".repeat(8) + "cry 7 1 8 1;", -8, 72);
    }

    private static void factors() {
        Check.says("or heavier; both told ahead, not one; N, M 1 to 9)");
        market(TWO + "cry 0 0 1 1;", -8, 22);
        market(TWO + "cry 0 10 1 1;", -8, 22);
        market(TWO + "cry 0 1 1 0;", -8, 26);
        market(TWO + "cry 0 1 1 10;", -8, 26);
        LeaningMarket x = Check.open(TWO + "cry 0 1 1 9;cry 0 9 1 1;");
        Check.due("N 1", 1, () -> x.cry(0, 1));
        Check.due("M 9", 9, () -> x.cry(0, 3));
        Check.due("N 9", 9, () -> x.cry(1, 1));
        Check.due("M 1", 1, () -> x.cry(1, 3));
    }

    private static void beam(String text, int lean, int play) {
        LeaningMarket x = Check.open(text);
        Check.due("lean of " + text, lean, () -> x.told(3));
        Check.due("play of " + text, play, () -> x.told(4));
    }

    private static void beam() {
        Check.says("(LEAN L, 0 to 18, PLAY P, 0 to 9; 9 0 without; the last counts)");
        beam("beam 0 0;", 0, 0);
        beam("beam 18 9;", 18, 9);
        market("beam 19 0;", -8, 5);
        market("beam 0 10;", -8, 7);
        beam("thing 1;", 9, 0);
        beam("beam 1 2;thing 1;beam 3 4;", 3, 4);
        beam("beam 3 4;beam 9 0;", 9, 0);
    }

    private static void newObject() {
        Check.says("A MARKET without CLAUSES.");
        LeaningMarket x = new LeaningMarket();
        String stood = Check.standing(x);
        Check.due("read as a text it is the same", 0, () -> x.market(0));
        String stands = Check.standing(x);
        Check.due(stood + ", then " + stands, 1, () -> stood.equals(stands) ? 1 : 0);
        Check.due("no thing", 0, () -> x.told(0));
        Check.due("no thing 0", Check.NO_SUCH, () -> x.thing(0, 0));
        Check.due("no cry", 0, () -> x.told(1));
        Check.due("no cry 0", Check.NO_SUCH, () -> x.cry(0, 0));
        Check.due("nothing to undo", -1, x::undo);
        Check.due("no image", -1, x::restore);
    }

    private static void feedOrder() {
        Check.says("Twenty bytes come on the TAPE, of each number the highest first: how many there are");
        LeaningMarket x = new LeaningMarket();
        // "thin" "g 12" ";bea" "m 13" "  4;"
        Check.due("twenty", 20, () -> x.feed(0x7468696e, 0x67203132, 0x3b626561, 0x6d203133, 0x2020343b));
        Check.due("as read", 1, () -> x.market(20));
        Check.due("weight", 12, () -> x.thing(0, 0));
        Check.due("lean", 13, () -> x.told(3));
        Check.due("play", 4, () -> x.told(4));
        Check.due("twenty again", 20, () -> x.feed(0x20202020, 0x20202020, 0x20202020, 0x20202020, 0x20207468));
        Check.due("forty", 40, () -> x.feed(0x696e6720, 0x353b2020, -1, -1, -1));
        Check.due("behind each other", 1, () -> x.market(26));
        Check.due("a byte of all bits is no blank", 20, () -> x.feed(-1, -1, -1, -1, -1));
        Check.due("it can't stand there", -9, () -> x.market(1));
    }

    private static void feedFull() {
        Check.says("NONE, doing nothing, if there would be more than 600");
        LeaningMarket x = new LeaningMarket();
        Check.put(x, "thing 7;" + " ".repeat(572));
        Check.due("580", 580, () -> x.count(1));
        Check.due("just 600", 600, () -> x.feed(0x20202020, 0x20202020, 0x20202020, 0x20206265, 0x616d2031));
        Check.stays("more", x, -1, () -> x.feed(0x3b3b3b3b, 0x3b3b3b3b, 0x3b3b3b3b, 0x3b3b3b3b, 0x3b3b3b3b));
        Check.due("600 still", 600, () -> x.count(1));
        Check.due("more again", -1, () -> x.feed(0, 0, 0, 0, 0));
        Check.due("no byte of it is another", -9, () -> x.market(600));
        Check.due("it ends too early", 600, x::fault);
        Check.due("then there is room", 20, () -> x.feed(0, 0, 0, 0, 0));
    }

    private static void firstBytes() {
        Check.says("The first n bytes of the TAPE (empty then) are the MARKET");
        LeaningMarket x = Check.open("thing 5;");
        Check.put(x, "thing 7;thing 8;beam 1 2;");
        Check.due("one of them", 1, () -> x.market(8));
        Check.due("empty then", 0, () -> x.count(1));
        Check.due("weight", 7, () -> x.thing(0, 0));
        Check.put(x, "thing 7;thing 8;beam 1 2;");
        Check.due("cut in a clause", -9, () -> x.market(15));
        Check.due("at the length", 15, x::fault);
        Check.due("empty behind a fault too", 0, () -> x.count(1));
        Check.put(x, "thing 7;");
        Check.due("none of them", 0, () -> x.market(0));
        Check.due("empty behind none too", 0, () -> x.count(1));
        Check.due("no thing", 0, () -> x.told(0));
        Check.due("0 of an empty tape", 0, () -> x.market(0));
    }

    private static LeaningMarket worked() {
        LeaningMarket x = Check.open("thing 9;thing 5;cry 0 1 1 1;beam 4 3;");
        Check.law(x, "7");
        Check.book(x, "0 1 1;");
        Check.work(x, "day;tip 5;weigh 0 1 1 2;turn;");
        x.image();
        return x;
    }

    private static void anew() {
        Check.says("(DAY 0; no LAW, BOOK, IMAGES, nothing to undo): how many THINGS");
        LeaningMarket x = worked();
        // What is asked of days ahead leaves nothing for the market that is read next.
        x.ahead(9, 0);
        Check.due("a new one", 2, () -> Check.market(x, "thing 40;thing 41;cry 1 2 0 3;"));
        // 41 by 2 is less than 40 by 3: cry 0 is not so.
        int[] told = {2, 1, 0, 9, 0, 81, 1, 3, 0, 0, 0};
        for (int i = 0; i < told.length; i++) {
            int what = i;
            Check.due("told " + i, told[i], () -> x.told(what));
        }
        Check.due("no law but the usual one", 2, () -> x.would(1, 8, 0, 0, 0, 0, 0));
        Check.due("no line", 190, () -> x.fits(0));
        Check.due("no images", 0, () -> x.count(0));
        Check.due("none to go back to", -1, x::restore);
        Check.due("no works", 0, () -> x.count(2));
        Check.due("none to undo", -1, x::undo);
        Check.due("weighed anew", 0, () -> x.thing(0, 2));
        LeaningMarket y = worked();
        Check.due("without things", 0, () -> y.market(0));
        Check.due("all is gone", 0, () -> y.told(0) + y.told(1) + y.told(2) + y.told(8) + y.count(0) + y.count(2));
    }

    private static void faultStays() {
        Check.says("how many THINGS; or the FAULT less 10 (all stays)");
        String[] texts = {"thing 1;x", "thing 1;thing 0;", "thing 1;".repeat(9), "thing"};
        int[] answers = {-9, -8, -7, -9};
        for (int i = 0; i < texts.length; i++) {
            String text = texts[i];
            LeaningMarket x = worked();
            Check.stays(text, x, answers[i], () -> Check.market(x, text));
            Check.due("image as it was", 0, x::restore);
            Check.due("work as it was", 0, x::undo);
            Check.due("undone to", 14, () -> x.told(5));
        }
    }

    private static void lengths() {
        Check.says("IllegalArgumentException: n is not 0 to the TAPE's bytes (it stays)");
        int[] lengths = {-1, 21, Integer.MIN_VALUE, Integer.MAX_VALUE};
        for (int n : lengths) {
            LeaningMarket x = worked();
            Check.due("a fault ahead", -9, () -> Check.market(x, "thing 1"));
            Check.put(x, "beam 1 2;  thing 44;");
            Check.refused("n " + n, x, Check.ILLEGAL, () -> x.market(n));
            Check.due("what is on it stays too", 1, () -> x.market(20));
            Check.due("so it reads", 44, () -> x.thing(0, 0));
        }
        LeaningMarket none = new LeaningMarket();
        Check.refused("1 of none", none, Check.ILLEGAL, () -> none.market(1));
        Check.refused("601", none, Check.ILLEGAL, () -> none.market(601));
        LeaningMarket full = new LeaningMarket();
        Check.put(full, " ".repeat(600));
        Check.refused("601 of 600", full, Check.ILLEGAL, () -> full.market(601));
        Check.due("600 of 600", 0, () -> full.market(600));
    }
}
