/** The bounds of promises 5 and 8, of WORK's text and of its STEPS. */
public final class BoundWorkTest {
    private static final String TWO = "thing 20;thing 10;";

    public static void main(String[] args) {
        bytes();
        weighNumbers();
        tipNumbers();
        feedNumbers();
        againNumbers();
        atFirst();
        refusedChangesNothing();
        twoHundred();
        agains();
        refusedOnes();
        inOrder();
        weighed();
        tenCries();
        thatVeryCry();
        tips();
        feeds();
        turns();
        lastDay();
        lightest();
        Check.end();
    }

    private static void work(String text, long want, long fault) {
        LeaningMarket x = Check.open(TWO);
        Check.due(text, want, () -> Check.work(x, text));
        Check.due("fault of " + text, fault, x::fault);
    }

    private static void bytes() {
        Check.says("WORK is a text of up to 150 bytes: { STEP \";\" }.");
        work("", 0, -1);
        work("day;".repeat(36) + "  day;", 37, -1);
        work("day;".repeat(36) + "   day", -9, 150);
        work("day;" + " ".repeat(146), 1, -1);
        LeaningMarket x = Check.open(TWO);
        Check.put(x, "day;" + " ".repeat(156));
        Check.refused("151 bytes", x, Check.ILLEGAL, () -> x.work(151));
        Check.due("150 bytes of them", 1, () -> x.work(150));
    }

    private static void weighNumbers() {
        Check.says("\"weigh\" A N B M (N, M 1 to 9)");
        work("weigh 0 0 1 1;", -8, 8);
        work("weigh 0 1 1 1;", 1, -1);
        work("weigh 0 9 1 9;", 1, -1);
        work("weigh 0 10 1 1;", -8, 8);
        work("weigh 0 1 1 0;", -8, 12);
        work("weigh 0 1 1 10;", -8, 12);
        work("weigh 2 1 0 1;", -8, 6);
        work("weigh 0 1 2 1;", -8, 10);
        LeaningMarket none = new LeaningMarket();
        Check.due("without things", -8, () -> Check.work(none, "weigh 0 1 1 1;"));
        LeaningMarket eight = Check.open("thing 1;".repeat(8));
        Check.due("the last of eight", 1, () -> Check.work(eight, "weigh 7 1 6 1;"));
    }

    private static void tipNumbers() {
        Check.says("\"tip\" C,");
        work("tip 0;", 0, -1);
        work("tip 9;", 0, -1);
        work("tip 10;", -8, 4);
        LeaningMarket x = Check.open(TWO + "cry 0 1 1 1;".repeat(10));
        Check.due("the last of ten", 1, () -> Check.work(x, "tip 9;"));
    }

    private static void feedNumbers() {
        Check.says("\"feed\" A N (N 1 to 30)");
        work("feed 0 0;", -8, 7);
        work("feed 0 1;", 1, -1);
        work("feed 1 30;", 1, -1);
        work("feed 0 31;", -8, 7);
        work("feed 2 1;", -8, 5);
        LeaningMarket x = Check.open(TWO);
        Check.work(x, "feed 0 1;feed 1 30;");
        Check.due("1 heavier", 21, () -> x.thing(0, 0));
        Check.due("30 heavier", 40, () -> x.thing(1, 0));
    }

    private static void againNumbers() {
        Check.says("\"again\" N \"[\" { STEP \";\" } \"]\" (N 0 to 60)");
        work("again 0[day;];", 0, -1);
        work("again 1[day;];", 1, -1);
        work("again 60[day;];", 60, -1);
        work("again 61[day;];", -8, 6);
        work("again 60[];", 0, -1);
        work("again 0[again 60[day;];];day;", 1, -1);
        work("again 2[day;again 3[];day;];", 4, -1);
        work("again 2 day;", -9, 8);
        work("again 2[day;;];", -9, 12);
        work("again 2[day];", -9, 11);
    }

    private static void atFirst() {
        Check.says("It is DAY 0 at first; nothing was weighed.");
        LeaningMarket x = Check.open(TWO);
        Check.due("day 0", 0, () -> x.told(2));
        Check.due("no weighing", 0, () -> x.told(10));
        Check.due("not thing 0", 0, () -> x.thing(0, 2));
        Check.due("not thing 1", 0, () -> x.thing(1, 2));
        Check.due("no step was refused", 0, () -> x.told(9));
    }

    private static void refusedChangesNothing() {
        Check.says("one that can't be done is REFUSED, and changes nothing");
        String full = "thing 60;thing 10;" + "cry 0 1 1 1;".repeat(10);
        changesNothing(full, "weigh 0 2 1 1;");
        changesNothing("thing 60;thing 10;cry 0 1 1 1;", "weigh 0 1 1 1;");
        changesNothing("thing 60;thing 10;cry 0 1 1 1;", "weigh 1 1 0 1;");
        changesNothing("thing 60;thing 10;cry 0 1 1 1;", "tip 1;");
        changesNothing(full, "feed 0 1;");
        changesNothing(full, "turn;");
    }

    private static void changesNothing(String market, String step) {
        LeaningMarket x = Check.open(market);
        // undo() tells how it stood ahead of the step: but for told(9) and count(2) nothing may differ.
        Check.due("refused: " + step, 0, () -> Check.work(x, step));
        Check.due("told so: " + step, 1, () -> x.told(9));
        String after = Check.standing(x);
        x.undo();
        String before = Check.standing(x);
        Check.due("two numbers differ by " + step + ", told(9) and count(2): " + before + ", then " + after, 2,
            () -> differences(before, after));
    }

    private static int differences(String one, String other) {
        String[] a = one.split(" ");
        String[] b = other.split(" ");
        int many = Math.abs(a.length - b.length);
        for (int i = 0; i < Math.min(a.length, b.length); i++) {
            many += a[i].equals(b[i]) ? 0 : 1;
        }
        return many;
    }

    private static void begun(String text, int done, int refused, int day) {
        LeaningMarket x = Check.open(TWO);
        Check.due(text, done, () -> Check.work(x, text));
        Check.due("refused by " + text, refused, () -> x.told(9));
        Check.due("day behind " + text, day, () -> x.told(2));
    }

    private static void twoHundred() {
        Check.says("200 STEPS at most are begun by one WORK");
        // An again and 60 rounds of 3 are 181, the next again 182, so that 17 rounds more are 199, and 18 are 200.
        String most = "again 60[day;day;day;];";
        begun(most + "again 17[day;];day;", 198, 0, 198);
        begun(most + "again 17[day;];day;day;", 198, 0, 198);
        begun(most + "again 18[day;];", 198, 0, 198);
        begun(most + "again 18[day;];day;", 198, 0, 198);
        begun(most + "again 60[day;];", 198, 0, 198);
        begun(most + "again 16[day;];day;", 197, 0, 197);
        LeaningMarket x = Check.open(TWO);
        Check.due("by one work", 198, () -> Check.work(x, most + "again 60[day;];"));
        Check.due("by the next as many", 102, () -> Check.work(x, most + "again 60[day;];"));
        Check.due("but for those refused", 96, () -> x.told(9));
    }

    private static void agains() {
        Check.says("(an again, too, each time it is come to;");
        // 1, 60 times 2, then 1 and 60, 1 and 17: 200.
        begun("again 60[again 1[day;];];again 60[day;];again 17[day;];day;", 137, 0, 137);
        begun("again 60[again 1[day;];];again 60[day;];again 16[day;];day;", 137, 0, 137);
        begun("again 60[again 1[day;];];again 60[day;];again 15[day;];day;", 136, 0, 136);
        // 1, 60 times 3: 181, though none is done; 1 and 17 more: 199; a day.
        begun("again 60[again 0[];again 60[];again 0[];];again 17[day;];day;day;", 18, 0, 18);
        // The 200th is an again: of its rounds none is begun.
        begun("again 60[day;day;day;];again 17[day;];again 9[day;];day;", 197, 0, 197);
        begun("again 60[again 60[];again 60[again 60[];];];day;", 0, 0, 0);
    }

    private static void refusedOnes() {
        Check.says("REFUSED ones, too), what would come behind is left out");
        begun("again 60[turn;turn;turn;];again 17[turn;];day;day;", 1, 197, 1);
        begun("again 60[turn;turn;turn;];again 18[turn;];day;", 0, 198, 0);
        begun("again 60[day;turn;tip 0;];again 17[tip 1;];day;turn;", 61, 137, 61);
    }

    private static void inOrder() {
        Check.says("STEPS are done in order;");
        LeaningMarket x = Check.open("thing 20;thing 10;beam 8 0;");
        Check.work(x, "weigh 0 1 1 2;feed 0 1;weigh 0 1 1 2;turn;weigh 0 1 1 2;tip 0;");
        // 20-1 to 20: right down; 21-1 to 20: level; 21+1 to 20: left down; the first cry is gone.
        int[] want = {0, 1, 1, 2};
        for (int i = 0; i < 4; i++) {
            int what = i;
            Check.due("the last cry " + i, want[i], () -> x.cry(0, what));
        }
        Check.due("no other", 1, () -> x.told(1));
        Check.due("all three were weighed", 3, () -> x.told(10));
    }

    private static void weighed() {
        Check.says("weigh: A, B were weighed once more; if it STANDS left down, it is CRIED: A N B M; "
            + "if right down, B M A N; if level, nothing");
        cried("weigh 0 2 1 3;", 1, 0, 2, 1, 3);
        cried("weigh 1 3 0 2;", 1, 0, 2, 1, 3);
        cried("weigh 0 2 1 4;", 0);
        cried("weigh 0 4 1 9;", 1, 1, 9, 0, 4);
    }

    private static void cried(String text, int cries, int... parts) {
        LeaningMarket x = Check.open(TWO);
        Check.due(text, 1, () -> Check.work(x, text));
        Check.due("cries by " + text, cries, () -> x.told(1));
        for (int i = 0; i < parts.length; i++) {
            int what = i;
            Check.due("part " + i + " by " + text, parts[i], () -> x.cry(0, what));
        }
        Check.due("A by " + text, 1, () -> x.thing(0, 2));
        Check.due("B by " + text, 1, () -> x.thing(1, 2));
        Check.due("weighings by " + text, 1, () -> x.told(10));
    }

    private static void tenCries() {
        Check.says("(REFUSED, if A is B, or 10 CRIES are there,");
        LeaningMarket nine = Check.open(TWO + "cry 1 1 0 1;".repeat(9));
        Check.due("the tenth", 1, () -> Check.work(nine, "weigh 0 1 1 1;"));
        Check.due("ten", 10, () -> nine.told(1));
        Check.due("no eleventh", 0, () -> Check.work(nine, "weigh 0 3 1 1;"));
        Check.due("refused", 1, () -> nine.told(9));
        Check.due("not though it stands level", 0, () -> Check.work(nine, "weigh 0 1 1 2;"));
        Check.due("refused so", 1, () -> nine.told(9));
        Check.due("one weighing", 1, () -> nine.told(10));
        Check.due("with nine, level", 2, () -> Check.work(nine, "tip 0;weigh 0 1 1 2;"));
        Check.due("with nine, left down", 1, () -> Check.work(nine, "weigh 0 3 1 1;weigh 0 4 1 1;"));
        work("weigh 0 1 0 1;", -8, 10);
    }

    private static void thatVeryCry() {
        Check.says("or, where it would be CRIED, that very CRY is there)");
        LeaningMarket x = Check.open(TWO + "cry 0 1 1 1;cry 0 1 1 2;");
        Check.due("left down", 0, () -> Check.work(x, "weigh 0 1 1 1;"));
        Check.due("right down", 0, () -> Check.work(x, "weigh 1 1 0 1;"));
        Check.due("level, though the cry is there", 1, () -> Check.work(x, "weigh 0 1 1 2;"));
        Check.due("another N", 1, () -> Check.work(x, "weigh 0 2 1 1;"));
        Check.due("another M", 1, () -> Check.work(x, "weigh 0 2 1 3;"));
        LeaningMarket y = Check.open("thing 20;thing 10;thing 5;thing 20;cry 0 1 1 1;");
        Check.due("another B", 1, () -> Check.work(y, "weigh 0 1 2 1;"));
        Check.due("another A", 1, () -> Check.work(y, "weigh 3 1 1 1;"));
        LeaningMarket z = Check.open(TWO + "cry 1 1 0 1;");
        Check.due("the other way round it is another", 1, () -> Check.work(z, "weigh 0 1 1 1;"));
        LeaningMarket last = Check.open(TWO + "cry 1 1 0 1;".repeat(8) + "cry 0 1 1 1;");
        Check.due("the last of nine", 0, () -> Check.work(last, "weigh 0 1 1 1;"));
    }

    private static void tips() {
        Check.says("tip: CRY C is gone, those behind it have numbers 1 less (REFUSED, if there are not so many)");
        StringBuilder ten = new StringBuilder(TWO);
        for (int i = 0; i < 10; i++) {
            ten.append("cry 0 ").append(1 + i % 9).append(" 1 ").append(1 + i / 9).append(';');
        }
        for (int gone = 0; gone < 10; gone++) {
            LeaningMarket x = Check.open(ten.toString());
            int c = gone;
            Check.due("tip " + gone, 1, () -> Check.work(x, "tip " + c + ";"));
            Check.due("nine are left", 9, () -> x.told(1));
            for (int i = 0; i < 9; i++) {
                int cry = i;
                int was = i < gone ? i : i + 1;
                Check.due("N of cry " + i, 1 + was % 9, () -> x.cry(cry, 1));
                Check.due("M of cry " + i, 1 + was / 9, () -> x.cry(cry, 3));
            }
            Check.due("no tenth", Check.NO_SUCH, () -> x.cry(9, 0));
            Check.due("tip 9 of nine", 0, () -> Check.work(x, "tip 9;"));
            Check.due("tip 8 of nine", 1, () -> Check.work(x, "tip 8;"));
        }
        begun("tip 0;", 0, 1, 0);
    }

    private static void fed(int weight, String text, int done, int want) {
        LeaningMarket x = Check.open("thing " + weight + ";");
        Check.due(text + " at " + weight, done, () -> Check.work(x, text));
        Check.due("weight behind " + text + " at " + weight, want, () -> x.thing(0, 0));
        Check.due("as told", weight, () -> x.thing(0, 1));
    }

    private static void feeds() {
        Check.says("feed: A is N heavier, 60 at most (REFUSED, if it is 60)");
        fed(29, "feed 0 30;", 1, 59);
        fed(30, "feed 0 30;", 1, 60);
        fed(31, "feed 0 30;", 1, 60);
        fed(59, "feed 0 1;", 1, 60);
        fed(59, "feed 0 30;", 1, 60);
        fed(60, "feed 0 1;", 0, 60);
        fed(60, "feed 0 30;", 0, 60);
        fed(1, "feed 0 30;feed 0 30;feed 0 30;", 2, 60);
    }

    private static void turned(int lean, int done, int want) {
        LeaningMarket x = Check.open("beam " + lean + " 0;");
        Check.due("turn at " + lean, done, () -> Check.work(x, "turn;"));
        Check.due("refused at " + lean, 1 - done, () -> x.told(9));
        Check.due("lean behind it", want, () -> x.told(3));
    }

    private static void turns() {
        Check.says("turn: LEAN is 18 less LEAN (REFUSED, if it is 9)");
        turned(0, 1, 18);
        turned(18, 1, 0);
        turned(8, 1, 10);
        turned(10, 1, 8);
        turned(9, 0, 9);
        LeaningMarket x = Check.open("beam 3 0;");
        Check.due("twice", 2, () -> Check.work(x, "turn;turn;"));
        Check.due("as it was", 3, () -> x.told(3));
    }

    private static void lastDay() {
        Check.says("day (REFUSED on DAY 300)");
        LeaningMarket x = Check.open("thing 60;");
        Check.law(x, "day/299");
        Check.work(x, "again 60[day;day;day;];");
        Check.work(x, "again 60[day;];again 59[day;];");
        Check.due("day 299", 299, () -> x.told(2));
        Check.due("as told", 60, () -> x.thing(0, 0));
        Check.due("the last day", 1, () -> Check.work(x, "day;"));
        Check.due("day 300", 300, () -> x.told(2));
        Check.due("it wears", 59, () -> x.thing(0, 0));
        Check.due("no day more", 0, () -> Check.work(x, "day;day;"));
        Check.due("refused", 2, () -> x.told(9));
        Check.due("day 300 still", 300, () -> x.told(2));
        Check.due("nothing wears", 59, () -> x.thing(0, 0));
        Check.due("other steps can be done", 1, () -> Check.work(x, "feed 0 1;day;"));
    }

    private static void lightest() {
        Check.says("each THING is lighter by its WEAR, all as the DAY begins, 1 at least; the DAY is one more");
        LeaningMarket x = Check.open("thing 1;thing 19;thing 20;thing 21;thing 22;thing 60;");
        Check.law(x, "20");
        Check.due("a day", 1, () -> Check.work(x, "day;"));
        int[] want = {1, 1, 1, 1, 2, 40};
        for (int i = 0; i < want.length; i++) {
            int thing = i;
            Check.due("thing " + i, want[i], () -> x.thing(thing, 0));
        }
        Check.due("one more", 1, () -> x.told(2));
        LeaningMarket y = Check.open("thing 9;thing 9;thing 9;");
        Check.law(y, "day+1");
        Check.work(y, "day;");
        for (int i = 0; i < 3; i++) {
            int thing = i;
            Check.due("by the day as it begins " + i, 8, () -> y.thing(thing, 0));
        }
        LeaningMarket none = new LeaningMarket();
        Check.due("without things", 1, () -> Check.work(none, "day;"));
        Check.due("one more", 1, () -> none.told(2));
    }
}
