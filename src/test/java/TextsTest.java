/** Promises 1 to 4, 6, 7, 13: the tape, the texts, their faults, laws. */
public final class TextsTest {
    public static void main(String[] args) {
        newObject();
        tape();
        markets();
        marketFaults();
        marketLimits();
        marketStartsAnew();
        laws();
        lawFaults();
        books();
        bookFaults();
        lengths();
        Check.end();
    }

    /** Promise 1. */
    private static void newObject() {
        LeaningMarket x = new LeaningMarket();
        int[] told = {0, 0, 0, 9, 0, 0, 0, 0, 0, 0, 0};
        for (int i = 0; i < told.length; i++) {
            int what = i;
            Check.due("1: told " + i, told[i], () -> x.told(what));
        }
        Check.due("1: no image", 0, () -> x.count(0));
        Check.due("1: no tape", 0, () -> x.count(1));
        Check.due("1: no work", 0, () -> x.count(2));
        Check.due("1: no fault", -1, x::fault);
        Check.due("1: usual law", 3, () -> x.would(60, 15, 0, 0, 0, 0, 0));
        Check.due("1: a text without clauses is it too", 0, () -> x.market(0));
    }

    /** Promise 2. */
    private static void tape() {
        LeaningMarket x = new LeaningMarket();
        for (int i = 1; i <= 30; i++) {
            int many = 20 * i;
            Check.due("2: feed " + i, many, () -> x.feed(0x20202020, 0x20202020, 0x20202020, 0x20202020, 0x20202020));
        }
        Check.due("2: a 31st", -1, () -> x.feed(0, 0, 0, 0, 0));
        Check.due("2: nothing done", 600, () -> x.count(1));
        Check.due("2: 600 blanks are a market", 0, () -> x.market(600));
        Check.due("2: empty then", 0, () -> x.count(1));
        // "thing 7;" with the highest byte of each number first.
        Check.due("2: order", 20, () -> x.feed(0x7468696e, 0x6720373b, 0, 0, 0));
        Check.due("2: order as read", 1, () -> x.market(8));
        Check.due("2: weight as read", 7, () -> x.thing(0, 0));
        Check.due("2: a byte above 127 stays what it is", 20, () -> x.feed(0xa0202020, 0, 0, 0, 0));
        Check.due("2: it can't stand there", -9, () -> x.market(1));
    }

    private static void market(String text, long want, long fault) {
        LeaningMarket x = new LeaningMarket();
        Check.due("3: " + text, want, () -> Check.market(x, text));
        Check.due("7: fault of " + text, fault, x::fault);
        Check.due("3: tape behind " + text, 0, () -> x.count(1));
    }

    /** Promise 3, texts that are fine. */
    private static void markets() {
        market("", 0, -1);
        market("   ", 0, -1);
        market("thing 1;", 1, -1);
        market("thing60;", 1, -1);
        market("  thing  0060  ;  ", 1, -1);
        market("beam 18 9;beam 0 0;", 0, -1);
        market("thing 1;thing 2;cry0 9 1 9;cry 0 9 1 9;", 2, -1);
        LeaningMarket x = Check.open("thing 5;beam 1 2;thing 6;cry 1 2 0 3;beam 3 4;");
        Check.due("3: the last beam counts", 3, () -> x.told(3));
        Check.due("3: its play", 4, () -> x.told(4));
        Check.due("3: weight", 6, () -> x.thing(1, 1));
        int[] parts = {1, 2, 0, 3};
        for (int i = 0; i < 4; i++) {
            int what = i;
            Check.due("11: cry 0 " + i, parts[i], () -> x.cry(0, what));
        }
    }

    /** Promises 3 and 7, what is wrong. */
    private static void marketFaults() {
        market("thing 61;", -8, 6);
        market("thing 0;", -8, 6);
        market("thing 99999999999999999999;", -8, 6);
        market("thing 4294967297;", -8, 6);
        market("thing ;", -9, 6);
        market("thing", -9, 5);
        market("thing 1", -9, 7);
        market("thing 1  ", -9, 9);
        market("thing 61", -8, 6);
        market("thing 1;;", -9, 8);
        market("thing 1 1;", -9, 8);
        market("thing -1;", -9, 6);
        market("Thing 1;", -9, 0);
        market("  thingy 1;", -9, 2);
        market("th ing 1;", -9, 0);
        market("thing\t1;", -9, 5);
        market("beam 19 0;", -8, 5);
        market("beam 0 10;", -8, 7);
        market("beam 0;", -9, 6);
        market("5;", -9, 0);
        market("thing 1;cry 0 1 1 1;thing 1;", -8, 16);
        market("thing 1;thing 1;cry 2 1 1 1;", -8, 20);
        market("thing 1;thing 1;cry 1 1 1 1;", -8, 24);
        market("thing 1;thing 1;cry 0 1 2 1;", -8, 24);
        market("thing 1;thing 1;cry 0 0 1 1;", -8, 22);
        market("thing 1;thing 1;cry 0 10 1 1;", -8, 22);
        market("thing 1;thing 1;cry 0 1 1 0;", -8, 26);
        market("thing 1;thing 1;cry 0 1 1 10;", -8, 26);
        market("thing 1;thing 1;cry 0 1 1;", -9, 25);
        market("cry 0 1 1 1;", -8, 4);
    }

    /** Promise 3, too many of them; of faults at one place the least. */
    private static void marketLimits() {
        String eight = Check.times(8, "thing 1;");
        String ten = "thing 1;thing 1;" + Check.times(10, "cry 0 1 1 1;");
        String sixty = Check.times(60, "beam0 0;");
        market(eight, 8, -1);
        market(eight + " thing 1;", -7, 65);
        market(eight + "thing 0;", -7, 64);
        market(ten, 2, -1);
        market(ten + "cry x", -7, 136);
        market(sixty, 0, -1);
        market(sixty + "  ", 0, -1);
        market(sixty + " beam 0 0;", -7, 481);
        market(sixty + "thing 1;", -7, 480);
        market(sixty + "cry", -7, 480);
        market(sixty + "beams 0 0;", -9, 480);
        market(sixty + ";", -9, 480);
    }

    /** Promise 3: what goes with the market that was, and what stays if the text is faulty. */
    private static void marketStartsAnew() {
        LeaningMarket x = Check.open("thing 9;thing 5;cry 0 1 1 1;beam 4 3;");
        Check.law(x, "7");
        Check.book(x, "0 1 1;");
        Check.work(x, "day;tip 5;weigh 0 1 1 1;");
        x.image();
        Check.due("3: a faulty one", -8, () -> Check.market(x, "thing 0;"));
        Check.due("7: its place", 6, x::fault);
        Check.due("3: things stay", 2, () -> x.told(0));
        Check.due("3: the day stays", 1, () -> x.told(2));
        Check.due("3: the book stays", 1, () -> x.told(8));
        Check.due("3: refused steps stay", 1, () -> x.told(9));
        Check.due("3: the law stays", 7, () -> x.thing(0, 4));
        Check.due("3: the image stays", 1, () -> x.count(0));
        Check.due("3: the work stays", 1, () -> x.count(2));
        Check.due("3: a new one", 1, () -> Check.market(x, "thing 40;"));
        Check.due("7: no place", -1, x::fault);
        int[] told = {1, 0, 0, 9, 0, 40, 0, 0, 0, 0, 0};
        for (int i = 0; i < told.length; i++) {
            int what = i;
            Check.due("3: anew, told " + i, told[i], () -> x.told(what));
        }
        Check.due("3: no law", 0, () -> x.thing(0, 4));
        Check.due("3: the usual law", 2, () -> x.would(1, 8, 0, 0, 0, 0, 0));
        Check.due("3: no image", -1, x::restore);
        Check.due("3: nothing to undo", -1, x::undo);
        Check.due("3: weighed anew", 0, () -> x.thing(0, 2));
    }

    private static void wears(String text, int want) {
        LeaningMarket x = new LeaningMarket();
        Check.due("4: " + text, 1, () -> Check.law(x, text));
        Check.due("7: fault of " + text, -1, x::fault);
        Check.due("13: wear by " + text, want, () -> x.would(11, 22, 3, 4, 55, 6, 7));
    }

    /** Promises 4 and 13. */
    private static void laws() {
        wears("weight", 11);
        wears("weighed", 20);
        wears("weighed-5", 17);
        wears("cried", 3);
        wears("thing", 4);
        wears("day / 5", 11);
        wears("lean", 6);
        wears(" play ", 7);
        wears("0", 0);
        wears("999", 20);
        wears("00000000000000000000000005", 5);
        wears("20", 20);
        wears("21", 20);
        wears("0-1", 0);
        wears("10-2-3", 5);
        wears("10-(2-3)", 11);
        wears("2+3*4", 14);
        wears("(2+3)*4-1", 19);
        wears("17/5*5", 15);
        wears("17%5*5", 10);
        wears("100/10/5", 2);
        wears("7/0", 0);
        wears("7%0+1", 1);
        wears("10+(0-7)/2", 7);
        wears("10+(0-7)%4", 7);
        wears("10+7%(0-4)", 13);
        wears("least[4,9]", 4);
        wears("most[4,9]", 9);
        wears("most [ least [ weight , 5 ] , cried ]", 5);
        wears("least[0-1,1]+2", 1);
        // 999 * 999 * 999 is 997002999, four times that 3988011996: wrapped it is below 0.
        wears("999*999*999*4", 0);
        wears("0-999*999*999*4", 20);
        // 2147483648 wraps to the least number, which divided by -1 is itself.
        wears("(512*512*512*16)/(0-1)", 0);
        wears("1+(512*512*512*16)%(0-1)", 1);
        wears("((((((9))))))", 9);
        wears("least[most[least[most[least[most[8,1],9],2],9],3],9]", 8);
        wears("(1)+(1)+(1)+(1)+(1)+(1)+(1)+least[1,1]", 8);
        wears("1+2*(1+2*(1+2*(1+2*(1-2*(1+2*(1-2*3))))))", 20);
        // As many values wait at one time as can: three by each that is open.
        wears(Check.times(6, "1+1*least[15,") + "1+1*5" + Check.times(6, "]"), 12);
        wears("7" + Check.times(37, "+1-1"), 7);
        wears("7" + Check.times(37, "*9/9"), 7);
        LeaningMarket x = new LeaningMarket();
        int[] fine = {1, 0, 0, 0, 0, 0, 0};
        int[] most = {60, 999, 10, 7, 300, 18, 9};
        for (int i = 0; i < 7; i++) {
            int[] low = fine.clone();
            int[] high = fine.clone();
            high[i] = most[i];
            due13(x, high, i == 1 ? 20 : 0);
            low[i]--;
            high[i]++;
            due13(x, low, Check.ILLEGAL);
            due13(x, high, Check.ILLEGAL);
        }
        Check.due("36: so many refused", 14, () -> x.status(1));
    }

    private static void due13(LeaningMarket x, int[] v, long want) {
        Check.due("13: " + java.util.Arrays.toString(v), want,
            () -> x.would(v[0], v[1], v[2], v[3], v[4], v[5], v[6]));
    }

    private static void law(String text, long want, long fault) {
        LeaningMarket x = new LeaningMarket();
        Check.law(x, "6");
        Check.due("4: " + text, want, () -> Check.law(x, text));
        Check.due("7: fault of " + text, fault, x::fault);
        Check.due("4: the law stays behind " + text, 6, () -> x.would(1, 0, 0, 0, 0, 0, 0));
        Check.due("4: tape behind " + text, 0, () -> x.count(1));
    }

    private static void lawFaults() {
        law("", -9, 0);
        law("  ", -9, 2);
        law("1000", -8, 0);
        law("1+1000+x", -8, 2);
        law("-1", -9, 0);
        law("1+", -9, 2);
        law("1 2", -9, 2);
        law("weight weight", -9, 7);
        law("weights", -9, 0);
        law("Weight", -9, 0);
        law("(1", -9, 2);
        law("1)", -9, 1);
        law("()", -9, 1);
        law("least 1", -9, 6);
        law("least[1]", -9, 7);
        law("least[1,2", -9, 9);
        law("most[1,2,3]", -9, 8);
        law("1;", -9, 1);
        law("(((((( (1)))))))", -7, 7);
        law("((((((least", -7, 6);
        law("((((((mos", -9, 6);
        law("((((((1+most[1,2]))))))", -7, 8);
        law(Check.times(6, "least[") + "most[", -7, 36);
        law("weightz", -9, 0);
        law("least[1,most[1,(least[1,(most[1, least[1,2]])])]]", -7, 33);
    }

    /** Promise 6. */
    private static void books() {
        LeaningMarket x = Check.open("thing 5;thing 6;thing 7;");
        Check.due("6: one line", 1, () -> Check.book(x, "0 1 2;"));
        Check.due("6: told", 1, () -> x.told(8));
        Check.due("6: six lines", 6, () -> Check.book(x, Check.times(6, " 2 0 1 ; ")));
        Check.due("6: a faulty one", -8, () -> Check.book(x, "0 0 1;"));
        Check.due("6: the book stays", 6, () -> x.told(8));
        Check.due("6: an empty one", 0, () -> Check.book(x, " "));
        Check.due("6: told so", 0, () -> x.told(8));
    }

    private static void book(String text, long want, long fault) {
        LeaningMarket x = Check.open("thing 5;thing 6;thing 7;");
        Check.due("6: " + text, want, () -> Check.book(x, text));
        Check.due("7: fault of " + text, fault, x::fault);
        Check.due("6: tape behind " + text, 0, () -> x.count(1));
    }

    private static void bookFaults() {
        String six = Check.times(6, "0 1 2;");
        book(six, 6, -1);
        book(six + " 0 1 2;", -7, 37);
        book(six + "3 1 2;", -8, 36);
        book(six + "x", -9, 36);
        book(six + "0", -7, 36);
        book("3 0 1;", -8, 0);
        book("0 3 1;", -8, 2);
        book("1 1 1;", -8, 2);
        book("1 0 3;", -8, 4);
        book("1 0 1", -9, 5);
        book("1 0;", -9, 3);
        book("01 00 02;", 1, -1);
        book(";", -9, 0);
        LeaningMarket x = new LeaningMarket();
        Check.due("6: no things, no lines", -8, () -> Check.book(x, "0 1 0;"));
        Check.due("7: at its A", 0, x::fault);
    }

    /** How long each text may be, and what a refused length leaves. */
    private static void lengths() {
        LeaningMarket x = new LeaningMarket();
        Check.due("3: n above the tape", Check.ILLEGAL, () -> x.market(1));
        Check.due("3: n below 0", Check.ILLEGAL, () -> x.market(-1));
        Check.due("4: n above the tape", Check.ILLEGAL, () -> x.law(1));
        Check.due("5: n above the tape", Check.ILLEGAL, () -> x.work(1));
        Check.due("6: n above the tape", Check.ILLEGAL, () -> x.book(1));
        Check.due("36: counted", 5, () -> x.status(1));
        Check.market(x, "x");
        Check.put(x, "1" + Check.times(199, " "));
        Check.due("4: 151 bytes", Check.ILLEGAL, () -> x.law(151));
        Check.due("5: 151 bytes", Check.ILLEGAL, () -> x.work(151));
        Check.due("6: 61 bytes", Check.ILLEGAL, () -> x.book(61));
        Check.due("4: below 0", Check.ILLEGAL, () -> x.law(-1));
        Check.due("5: below 0", Check.ILLEGAL, () -> x.work(-1));
        Check.due("6: below 0", Check.ILLEGAL, () -> x.book(-1));
        Check.due("2: the tape stays", 200, () -> x.count(1));
        Check.due("7: the latest text's fault stays", 0, x::fault);
        Check.due("4: 150 bytes", 1, () -> x.law(150));
        Check.due("4: the whole tape is empty", 0, () -> x.count(1));
        Check.put(x, Check.times(200, " "));
        Check.due("5: 150 bytes", 0, () -> x.work(150));
        Check.put(x, Check.times(200, " "));
        Check.due("6: 60 bytes", 0, () -> x.book(60));
        Check.put(x, "thing 1;thing 2;");
        Check.due("3: the first n bytes", 1, () -> x.market(8));
        Check.due("3: the others are gone", 0, () -> x.count(1));
    }
}
