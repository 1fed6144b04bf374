/** The bounds of promise 7: FAULTS and their places in all four kinds of text. */
public final class BoundFaultTest {
    private static final String THREE = "thing 5;thing 6;thing 7;";

    public static void main(String[] args) {
        digits();
        letters();
        blanks();
        firstFromTheLeft();
        cannotStand();
        endsTooEarly();
        noSuchNumber();
        sameAsA();
        tooMany();
        seventhInALaw();
        seventhInWork();
        ofOneTheLeast();
        fault();
        Check.end();
    }

    private static void market(String text, long want, long fault) {
        LeaningMarket x = new LeaningMarket();
        Check.due("market " + text, want, () -> Check.market(x, text));
        Check.due("fault of market " + text, fault, x::fault);
    }

    private static void law(String text, long want, long fault) {
        LeaningMarket x = new LeaningMarket();
        Check.due("law " + text, want, () -> Check.law(x, text));
        Check.due("fault of law " + text, fault, x::fault);
    }

    private static void work(String text, long want, long fault) {
        LeaningMarket x = Check.open(THREE);
        Check.due("work " + text, want, () -> Check.work(x, text));
        Check.due("fault of work " + text, fault, x::fault);
    }

    private static void book(String text, long want, long fault) {
        LeaningMarket x = Check.open(THREE);
        Check.due("book " + text, want, () -> Check.book(x, text));
        Check.due("fault of book " + text, fault, x::fault);
    }

    private static void digits() {
        Check.says("Numbers: digits, as many as stand there;");
        market("thing 0000000000000000000000060;", 1, -1);
        market("thing 1 0;", -9, 8);
        market("thing 12345678901234567890;", -8, 6);
        market("thing 2147483649;", -8, 6);
        market("thing 4294967297;", -8, 6);
        market("thing 18446744073709551617;", -8, 6);
        market("thing 1000001;", -8, 6);
        work("feed 00 0000030;", 1, -1);
        book("00 01 02;", 1, -1);
        book("012;", -8, 0);
        law("0007", 1, -1);
        law("0001000", -8, 0);
    }

    private static void letters() {
        Check.says("WORDS: small letters, as many as stand there;");
        market("thin 1;", -9, 0);
        market("things 1;", -9, 0);
        market("thingthing 1;", -9, 0);
        market("THING 1;", -9, 0);
        market("thinG 1;", -9, 0);
        market("ching 1;", -9, 0);
        market("beat 1 1;", -9, 0);
        market("seam 1 1;", -9, 0);
        market("thing5;", 1, -1);
        work("dayday;", -9, 0);
        work("pay;", -9, 0);
        work("tin 0;", -9, 0);
        work("feed0 1;", 1, -1);
        law("weightday", -9, 0);
        law("height", -9, 0);
        law("clay", -9, 0);
        law("most", -9, 4);
        law("post[1,2]", -9, 0);
        law("day1", -9, 3);
        law("d ay", -9, 0);
    }

    private static void blanks() {
        Check.says("blanks (32) may stand ahead of all these, and at the end.");
        market("  thing  5  ;  beam  1  2  ;  ", 1, -1);
        market("thing\t5;", -9, 5);
        market("thing\n5;", -9, 5);
        market("thing" + (char) 160 + "5;", -9, 5);
        market("thing 5;" + (char) 0, -9, 8);
        law("  ( 1 + least [ 2 , weight ] ) * 3  ", 1, -1);
        work("  again  2  [  day  ;  ]  ;  ", 2, -1);
        work(" weigh 0  1  1  1 ;", 1, -1);
        book("  0  1  2  ;  ", 1, -1);
        book(" ", 0, -1);
        work(" ", 0, -1);
    }

    private static void firstFromTheLeft() {
        Check.says("FAULTS, the first from the left, at its first byte");
        market("thing 61;x", -8, 6);
        market("x;thing 61;", -9, 0);
        market("  thing   610  ;", -8, 10);
        market("thing 5;  thingy 1;", -9, 10);
        law("1 +  1000 + x", -8, 5);
        law("1 + x + 1000", -9, 4);
        work("day;feed 0 31;feed 9 1;", -8, 11);
        work("day;feed 9 31;", -8, 9);
        work("weigh 0 0 0 0;", -8, 8);
        book("0 0 3;", -8, 2);
        book("7 7 3;", -8, 0);
    }

    private static void cannotStand() {
        Check.says("1 what can't stand there");
        market(";", -9, 0);
        market("5;", -9, 0);
        market("thing x;", -9, 6);
        market("thing 1,", -9, 7);
        market("thing -1;", -9, 6);
        market("beam 1;", -9, 6);
        market("cry;", -9, 3);
        market("[];", -9, 0);
        law("+1", -9, 0);
        law("1+*2", -9, 2);
        law("1=1", -9, 1);
        law("again", -9, 0);
        law(";", -9, 0);
        work("thing 1;", -9, 0);
        work("day 1;", -9, 4);
        work("turn 1;", -9, 5);
        work("];", -9, 0);
        work("again[];", -9, 5);
        work("again 1(day;);", -9, 7);
        work("again 1[];];", -9, 10);
        work("tip;", -9, 3);
        book("x 1 1;", -9, 0);
        book("0 x 1;", -9, 2);
        book("0 1 1 1;", -9, 6);
        book("0 1 1,", -9, 5);
        book(";", -9, 0);
    }

    private static void endsTooEarly() {
        Check.says("(at the length, if the text ends too early)");
        market("thing", -9, 5);
        market("thing   ", -9, 8);
        market("thing 1", -9, 7);
        market("thing 1  ", -9, 9);
        market("thing 5;thing 6;cry 0 1 1", -9, 25);
        market("beam 1", -9, 6);
        law("", -9, 0);
        law("   ", -9, 3);
        law("1+", -9, 2);
        law("(1 ", -9, 3);
        law("least", -9, 5);
        law("least[1,", -9, 8);
        law("least[1,2", -9, 9);
        work("day", -9, 3);
        work("weigh 0 1 1", -9, 11);
        work("again 1", -9, 7);
        work("again 1[", -9, 8);
        work("again 1[ ", -9, 9);
        work("again 1[day;", -9, 12);
        work("again 1[day;]", -9, 13);
        book("0", -9, 1);
        book("0 1", -9, 3);
        book("0 1 1", -9, 5);
    }

    private static void noSuchNumber() {
        Check.says("2 a number that is none such");
        market("thing 0;", -8, 6);
        market("thing 61", -8, 6);
        market("beam 19 0;", -8, 5);
        market("beam 0 10;", -8, 7);
        market("cry 0 1 1 1;", -8, 4);
        law("1000", -8, 0);
        work("weigh 3 1 0 1;", -8, 6);
        work("tip 10;", -8, 4);
        work("feed 3 1;", -8, 5);
        work("again 61[];", -8, 6);
        book("3 0 0;", -8, 0);
        book("0 3 0;", -8, 2);
        book("0 1 3;", -8, 4);
    }

    private static void sameAsA() {
        Check.says("(B as A: of cry, weigh, a line)");
        market(THREE + "cry 0 1 0 1;", -8, 32);
        market(THREE + "cry 2 1  02 1;", -8, 33);
        work("weigh 0 1 0 1;", -8, 10);
        work("weigh 2 1 002 0;", -8, 10);
        book("0 0 1;", -8, 2);
        book("2  02 3;", -8, 3);
    }

    private static void tooMany() {
        Check.says("3 a CLAUSE, THING or CRY (at its word), a line (at its A) too many");
        market("beam0 0;".repeat(60) + "  beam0 0;", -7, 482);
        market("thing 1;".repeat(8) + "  thing 1;", -7, 66);
        market("thing 1;".repeat(8) + "thing 61;", -7, 64);
        market("thing 1;".repeat(2) + "cry 0 1 1 1;".repeat(10) + "  cry 0 1 1 1;", -7, 138);
        market("thing 1;".repeat(2) + "cry 0 1 1 1;".repeat(10) + "cry 9 0 9 0;", -7, 136);
        book("0 1 2;".repeat(6) + "  1 0 1;", -7, 38);
        book("0 1 2;".repeat(6) + "1 1 9;", -7, 36);
    }

    private static void seventhInALaw() {
        Check.says("or a 7th of ( least most again that is open at one time;");
        law("((((((1))))))", 1, -1);
        law("(((((((1)))))))", -7, 6);
        law("(((((( (1", -7, 7);
        law("least[".repeat(6) + "1" + ",1]".repeat(6), 1, -1);
        law("least[".repeat(6) + " most[1,1]", -7, 37);
        law("most[".repeat(6) + "(1)", -7, 30);
        law("most[1,".repeat(6) + "1" + "]".repeat(6), 1, -1);
        law("most[1,".repeat(6) + "least[1,1]", -7, 42);
        law("(least[(most[1,(least[1,", -9, 24);
        law("(least[(most[1,(least[1,(", -7, 24);
        law("(((((1)))))+((((((1))))))+(1)*least[1,1]", 1, -1);
        law("(((((((1)+(1)))))))", -7, 6);
        law("((((((1)+(1))))))", 1, -1);
        law("((((((1)+((1))))))", -7, 10);
    }

    private static void seventhInWork() {
        Check.says("least most again that is open at one time");
        work("again 1[".repeat(6) + "day;" + "];".repeat(6), 1, -1);
        work("again 1[".repeat(7) + "day;" + "];".repeat(7), -7, 48);
        work("again 1[".repeat(6) + "  again 1[];", -7, 50);
        work("again 0[];".repeat(9), 0, -1);
        work("again 1[".repeat(5) + "again 1[];again 1[day;];" + "];".repeat(5), 1, -1);
        work("again 1[".repeat(5) + "again 1[];again 1[again 1[", -7, 58);
    }

    private static void ofOneTheLeast() {
        Check.says("of one the least.");
        // A word that is none where a 61st clause begins; a line's A that is none where a 7th line begins.
        market("beam0 0;".repeat(60) + "beams 0 0;", -9, 480);
        market("beam0 0;".repeat(60) + "7", -9, 480);
        market("beam0 0;".repeat(60) + ";", -9, 480);
        book("0 1 2;".repeat(6) + "3 0 1;", -8, 36);
        book("0 1 2;".repeat(6) + "x", -9, 36);
        book("0 1 2;".repeat(6) + ";", -9, 36);
        law("((((((mos[1,1]", -9, 6);
        law("((((((;", -9, 6);
        work("again 1[".repeat(6) + "agai 1[];", -9, 48);
        // A 61st clause that is a 9th thing is one fault, at one place.
        market("thing 1;".repeat(8) + "beam0 0;".repeat(52) + "thing 1;", -7, 480);
    }

    private static void fault() {
        Check.says("The place of the FAULT of the latest text; NONE without.");
        LeaningMarket x = new LeaningMarket();
        Check.due("no text", -1, x::fault);
        Check.market(x, "thing 61;");
        Check.due("of a market", 6, x::fault);
        Check.due("asked again", 6, x::fault);
        Check.market(x, THREE);
        Check.due("a market without", -1, x::fault);
        Check.law(x, "1+1000");
        Check.due("of a law", 2, x::fault);
        Check.work(x, "tip 10;");
        Check.due("of a work", 4, x::fault);
        Check.book(x, "0 1 3;");
        Check.due("of a book", 4, x::fault);
        Check.outcome(() -> x.market(700));
        Check.due("a refused call is no text", 4, x::fault);
        x.undo();
        x.image();
        x.restore();
        Check.due("nor are other calls", 4, x::fault);
        Check.book(x, "0 1 2;");
        Check.due("a book without", -1, x::fault);
        Check.work(x, "x");
        Check.due("at 0", 0, x::fault);
        Check.work(x, "day;");
        Check.due("a work without", -1, x::fault);
        Check.law(x, "x");
        Check.law(x, "1");
        Check.due("a law without", -1, x::fault);
    }
}
