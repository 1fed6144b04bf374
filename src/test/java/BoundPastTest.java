/** The bounds of promises 5, 8, 34, 35, 37: WORKS that can be undone, IMAGES. */
public final class BoundPastTest {
    private static final String MARKET = "thing 20;thing 10;thing 30;cry 1 1 0 1;beam 4 2;";

    public static void main(String[] args) {
        stepsDone();
        faulty();
        sixteen();
        lengths();
        undone();
        undoneFully();
        refusedSteps();
        images();
        kept();
        restored();
        restoredWorks();
        counted();
        Check.end();
    }

    private static void stepsDone() {
        Check.says("how many STEPS were done (agains not counted, nor REFUSED ones)");
        LeaningMarket x = Check.open(MARKET);
        Check.due("agains", 0, () -> Check.work(x, "again 5[again 5[];];"));
        Check.due("refused ones", 0, () -> Check.work(x, "again 5[tip 9;];"));
        Check.due("each kind once", 5, () -> Check.work(x, "again 1[weigh 0 1 2 1;tip 0;feed 0 1;turn;day;tip 9;];"));
        Check.due("none", 0, () -> Check.work(x, ""));
        Check.due("it is a work as others are", 4, () -> x.count(2));
    }

    private static void faulty() {
        Check.says("or the FAULT less 10 (none is); -20 ahead of that");
        String[] texts = {"day;feed 0 1;x", "day;feed 0 31;", "day;" + "again 1[".repeat(7), "day;day"};
        int[] answers = {-9, -8, -7, -9};
        for (int i = 0; i < texts.length; i++) {
            String text = texts[i];
            LeaningMarket x = Check.open(MARKET);
            Check.work(x, "feed 0 5;tip 9;");
            Check.stays(text, x, answers[i], () -> Check.work(x, text));
            Check.due("the tape is empty", 0, () -> x.count(1));
        }
    }

    private static LeaningMarket sixteenDays() {
        LeaningMarket x = Check.open(MARKET);
        Check.law(x, "1");
        for (int i = 1; i <= 15; i++) {
            Check.work(x, "day;");
        }
        Check.due("the sixteenth", 1, () -> Check.work(x, "day;tip 9;"));
        return x;
    }

    private static void sixteen() {
        Check.says("(nothing is read, there is no FAULT, the TAPE is empty then): 16 WORKS are there that were not undone");
        LeaningMarket x = sixteenDays();
        Check.due("sixteen", 16, () -> x.count(2));
        Check.market(x, "x");
        Check.due("a fault of another text", 0, x::fault);
        Check.stays("a seventeenth", x, -20, () -> Check.work(x, "day;"));
        Check.due("there is no fault", -1, x::fault);
        Check.due("the tape is empty", 0, () -> x.count(1));
        Check.stays("nothing is read", x, -20, () -> Check.work(x, "x"));
        Check.due("no fault is found", -1, x::fault);
        Check.stays("not an empty one", x, -20, () -> x.work(0));
        LeaningMarket y = sixteenDays();
        Check.due("one is undone", 15, y::undo);
        Check.due("then there is room", 1, () -> Check.work(y, "feed 0 1;"));
        Check.due("no more", -20, () -> Check.work(y, "feed 0 1;"));
        Check.due("sixteen", 16, () -> y.count(2));
        Check.market(y, "thing 1;");
        Check.due("a new market has none", 1, () -> Check.work(y, "feed 0 1;"));
    }

    private static void lengths() {
        Check.says("Likewise WORK (n to 150), which is done");
        int[] lengths = {-1, 21, 151, Integer.MIN_VALUE, Integer.MAX_VALUE};
        for (int n : lengths) {
            LeaningMarket x = Check.open(MARKET);
            Check.put(x, "day;turn;" + " ".repeat(11));
            Check.refused("n " + n, x, Check.ILLEGAL, () -> x.work(n));
            Check.due("the tape was as it is", 2, () -> x.work(20));
        }
        LeaningMarket cut = Check.open(MARKET);
        Check.put(cut, "day;turn;day;");
        Check.due("the first bytes alone", 2, () -> cut.work(9));
        Check.due("empty then", 0, () -> cut.count(1));
        LeaningMarket full = sixteenDays();
        Check.put(full, "day;");
        Check.refused("a length comes ahead of -20", full, Check.ILLEGAL, () -> full.work(21));
    }

    private static void undone() {
        Check.says("The latest WORK that was done is undone: how many are left; -1: there is none.");
        LeaningMarket none = new LeaningMarket();
        Check.stays("none", none, -1, none::undo);
        LeaningMarket x = sixteenDays();
        for (int i = 15; i >= 0; i--) {
            int left = i;
            Check.due("back to " + i, left, x::undo);
            Check.due("day " + i, left, () -> x.told(2));
            Check.due("weight " + i, 20 - left, () -> x.thing(0, 0));
        }
        Check.stays("no more", x, -1, x::undo);
        Check.due("a faulty work is none", -9, () -> Check.work(x, "x"));
        Check.stays("so there is none", x, -1, x::undo);
        Check.work(x, "");
        Check.due("an empty one is one", 0, x::undo);
    }

    private static void undoneFully() {
        Check.says("`int undo()`: The latest WORK that was done is undone");
        LeaningMarket x = Check.open(MARKET);
        Check.law(x, "3");
        String before = Check.standing(x);
        Check.due("every kind of step", 6, () -> Check.work(x, "weigh 0 1 1 1;weigh 2 1 0 1;feed 1 9;turn;tip 0;day;"));
        Check.due("undone", 0, x::undo);
        String after = Check.standing(x);
        Check.due(before + ", then " + after, 1, () -> before.equals(after) ? 1 : 0);
        allOfTen(false);
    }

    /** Eight things and ten cries, each other than the next, all changed and taken back. */
    private static void allOfTen(boolean byImage) {
        StringBuilder full = new StringBuilder();
        for (int i = 0; i < 8; i++) {
            full.append("thing ").append(20 + i).append(';');
        }
        for (int i = 0; i < 10; i++) {
            full.append("cry ").append(i % 8).append(' ').append(1 + i % 9).append(' ').append((i + 3) % 8).append(' ')
                .append(9 - i % 9).append(';');
        }
        LeaningMarket x = Check.open(full + "beam 2 1;");
        String before = Check.standing(x);
        if (byImage) {
            x.image();
        }
        Check.work(x, "again 8[tip 2;];weigh 7 9 6 1;weigh 5 9 4 1;weigh 3 9 2 1;weigh 1 9 0 1;weigh 7 8 6 1;turn;day;"
            + "feed 0 1;feed 3 2;feed 7 3;");
        Check.due("changed", 7, () -> x.told(1));
        Check.due("taken back", 0, () -> byImage ? x.restore() : x.undo());
        String after = Check.standing(x);
        Check.due(before + ", then " + after, 1, () -> before.equals(after) ? 1 : 0);
    }

    private static void refusedSteps() {
        Check.says("9 STEPS REFUSED by the latest WORK (0 ahead of any, behind undo(), restore())");
        LeaningMarket x = Check.open(MARKET);
        Check.due("ahead of any", 0, () -> x.told(9));
        Check.work(x, "tip 9;tip 9;day;");
        Check.due("two", 2, () -> x.told(9));
        Check.work(x, "tip 9;");
        Check.due("of the latest alone", 1, () -> x.told(9));
        Check.work(x, "x");
        Check.due("a faulty one is none", 1, () -> x.told(9));
        x.undo();
        Check.due("behind undo, though the one ahead had two", 0, () -> x.told(9));
        Check.work(x, "tip 9;");
        x.image();
        Check.due("an image leaves it", 1, () -> x.told(9));
        x.restore();
        Check.due("behind restore", 0, () -> x.told(9));
        Check.work(x, "tip 9;tip 8;tip 7;");
        Check.due("three", 3, () -> x.told(9));
        Check.market(x, "thing 1;");
        Check.due("ahead of any by a new market", 0, () -> x.told(9));
    }

    private static void images() {
        Check.says("how many there are; -1: there are 3.");
        LeaningMarket x = Check.open(MARKET);
        for (int i = 1; i <= 3; i++) {
            int many = i;
            Check.work(x, "day;");
            Check.due("image " + i, many, x::image);
        }
        Check.work(x, "day;");
        Check.stays("no fourth", x, -1, x::image);
        Check.due("three still", 3, () -> x.count(0));
        for (int i = 3; i >= 1; i--) {
            int left = i - 1;
            Check.due("back by " + i, left, x::restore);
            Check.due("to day " + i, left + 1, () -> x.told(2));
        }
        Check.due("room again", 1, x::image);
    }

    private static void kept() {
        Check.says("An IMAGE of all that WORK changes, and of WORKS that can be undone");
        LeaningMarket x = Check.open(MARKET);
        Check.law(x, "3");
        Check.work(x, "weigh 0 1 1 1;");
        x.image();
        String before = Check.standing(x);
        Check.work(x, "weigh 0 2 1 1;weigh 2 1 0 1;feed 1 9;turn;tip 0;day;");
        x.undo();
        x.undo();
        Check.work(x, "day;day;");
        Check.work(x, "turn;");
        Check.due("back", 0, x::restore);
        x.image();
        String after = Check.standing(x);
        Check.due(before + ", then " + after, 1, () -> before.equals(after) ? 1 : 0);
        Check.due("its work", 0, x::undo);
        Check.due("weighed ahead of it", 0, () -> x.told(10));
    }

    private static void restored() {
        Check.says("All that is as in the latest IMAGE, which is gone: how many are left; -1: there is none.");
        LeaningMarket x = Check.open(MARKET);
        Check.work(x, "day;");
        Check.stays("none", x, -1, x::restore);
        Check.due("the work stays", 1, () -> x.count(2));
        x.image();
        Check.law(x, "5");
        Check.book(x, "0 1 1;");
        Check.work(x, "turn;");
        Check.due("gone by it", 0, x::restore);
        Check.due("the law is no work's", 5, () -> x.thing(0, 4));
        Check.due("nor is the book", 1, () -> x.told(8));
        Check.due("lean", 4, () -> x.told(3));
        Check.stays("none again", x, -1, x::restore);
    }

    /** An image with sixteen works, and one with none. */
    private static void restoredWorks() {
        Check.says("`int restore()`: All that is as in the latest IMAGE");
        LeaningMarket x = Check.open(MARKET);
        x.image();
        for (int i = 0; i < 16; i++) {
            Check.work(x, "day;");
        }
        x.image();
        x.undo();
        x.undo();
        Check.work(x, "turn;");
        Check.work(x, "feed 0 30;");
        Check.due("back to sixteen", 1, x::restore);
        Check.due("sixteen", 16, () -> x.count(2));
        Check.due("no room", -20, () -> Check.work(x, "day;"));
        for (int i = 15; i >= 12; i--) {
            int left = i;
            Check.due("undone behind it to " + i, left, x::undo);
            Check.due("day " + i, left, () -> x.told(2));
            Check.due("lean", 4, () -> x.told(3));
        }
        Check.due("back to none", 0, x::restore);
        Check.due("none", 0, () -> x.count(2));
        Check.due("none to undo", -1, x::undo);
        Check.due("day 0", 0, () -> x.told(2));
        allOfTen(true);
    }

    private static void counted() {
        Check.says("0 IMAGES, 1 bytes of the TAPE, 2 WORKS that can be undone; NONE for others.");
        LeaningMarket x = Check.open(MARKET);
        for (int i = 0; i <= 2; i++) {
            int what = i;
            Check.due("none of " + i, 0, () -> x.count(what));
        }
        Check.work(x, "day;");
        Check.work(x, "day;");
        x.image();
        Check.put(x, " ".repeat(60));
        int[] want = {1, 60, 2};
        for (int i = 0; i <= 2; i++) {
            int what = i;
            Check.due("count " + i, want[i], () -> x.count(what));
        }
        int[] others = {-1, 3, Integer.MIN_VALUE, Integer.MAX_VALUE};
        for (int what : others) {
            Check.due("count " + what, -1, () -> x.count(what));
        }
        Check.due("none is refused", 0, () -> x.status(0) + x.status(1));
    }
}
