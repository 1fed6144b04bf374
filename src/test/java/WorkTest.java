/** Promises 5, 7 to 12, 34, 35, 37: steps, what they change, undoing, images. */
public final class WorkTest {
    private static final String SMALL = "thing 10;thing 4;thing 4;beam 11 1;";

    public static void main(String[] args) {
        weighing();
        refusedWeighing();
        tipping();
        feedingAndTurning();
        days();
        loops();
        limits();
        faults();
        undoing();
        sixteen();
        images();
        Check.end();
    }

    private static void cry(LeaningMarket x, int cry, int a, int n, int b, int m) {
        int[] want = {a, n, b, m};
        for (int i = 0; i < 4; i++) {
            int what = i;
            Check.due("11: cry " + cry + " part " + i, want[i], () -> x.cry(cry, what));
        }
    }

    private static void weighing() {
        LeaningMarket x = Check.open(SMALL);
        // Lean 11 is 2 more on the left; play 1.
        Check.due("5: left down", 1, () -> Check.work(x, "weigh 1 1 2 1;"));
        cry(x, 0, 1, 1, 2, 1);
        Check.due("5: level", 1, () -> Check.work(x, "weigh 0 1 1 3;"));
        Check.due("5: nothing cried", 1, () -> x.told(1));
        Check.due("5: level by play", 1, () -> Check.work(x, "weigh 1 2 0 1;"));
        Check.due("5: right down", 1, () -> Check.work(x, "weigh 2 1 0 2;"));
        cry(x, 1, 0, 2, 2, 1);
        int[] weighed = {3, 3, 2};
        for (int i = 0; i < 3; i++) {
            int thing = i;
            Check.due("10: weighed " + i, weighed[i], () -> x.thing(thing, 2));
        }
        Check.due("9: weighings", 4, () -> x.told(10));
        Check.due("9: none refused", 0, () -> x.told(9));
        Check.due("9: in cries", 7, () -> x.told(7));
        Check.due("10: in cries", 2, () -> x.thing(0, 3));
        Check.due("10: in cries", 3, () -> x.thing(2, 3));
    }

    private static void refusedWeighing() {
        LeaningMarket x = Check.open(SMALL);
        Check.due("5: that very cry", 1, () -> Check.work(x, "weigh 0 1 1 1;weigh 0 1 1 1;"));
        Check.due("9: refused", 1, () -> x.told(9));
        Check.due("10: weighed but once", 1, () -> x.thing(0, 2));
        Check.due("5: cried the other way round", 0, () -> Check.work(x, "weigh 1 1 0 1;"));
        Check.due("5: other numbers, another cry", 1, () -> Check.work(x, "weigh 0 1 1 2;"));
        LeaningMarket full = Check.open(SMALL + Check.times(10, "cry 0 1 1 1;"));
        Check.due("5: ten are there, though it is level", 0, () -> Check.work(full, "weigh 1 2 0 1;"));
        Check.due("9: refused", 1, () -> full.told(9));
        Check.due("9: no weighing", 0, () -> full.told(10));
        Check.due("5: room again", 2, () -> Check.work(full, "tip 3;weigh 1 2 0 1;"));
    }

    private static void tipping() {
        LeaningMarket x = Check.open(SMALL + "cry 0 1 1 1;cry 1 2 2 2;cry 2 3 0 3;");
        Check.due("5: tip", 1, () -> Check.work(x, "tip 1;"));
        cry(x, 0, 0, 1, 1, 1);
        cry(x, 1, 2, 3, 0, 3);
        Check.due("11: gone", Check.NO_SUCH, () -> x.cry(2, 0));
        Check.due("5: not so many", 0, () -> Check.work(x, "tip 2;tip 9;"));
        Check.due("9: refused", 2, () -> x.told(9));
        Check.due("5: both", 2, () -> Check.work(x, "tip 1;tip 0;tip 0;"));
        Check.due("9: none is left", 0, () -> x.told(1));
    }

    private static void feedingAndTurning() {
        LeaningMarket x = Check.open("thing 25;thing 60;beam 4 0;");
        Check.due("5: feed", 1, () -> Check.work(x, "feed 0 30;"));
        Check.due("10: fed", 55, () -> x.thing(0, 0));
        Check.due("10: as told", 25, () -> x.thing(0, 1));
        Check.due("5: feed to 60", 1, () -> Check.work(x, "feed 0 30;feed 0 1;feed 1 1;"));
        Check.due("10: 60 at most", 60, () -> x.thing(0, 0));
        Check.due("9: refused at 60", 2, () -> x.told(9));
        Check.due("5: turn", 1, () -> Check.work(x, "turn;"));
        Check.due("9: lean", 14, () -> x.told(3));
        LeaningMarket straight = Check.open("");
        Check.due("5: turn at 9", 0, () -> Check.work(straight, "turn;"));
        Check.due("9: refused", 1, () -> straight.told(9));
    }

    private static void days() {
        LeaningMarket x = Check.open("thing 30;thing 3;cry 1 1 0 1;beam 5 2;");
        Check.law(x, "weight/2+cried+thing+day*3-lean+play");
        // 15+1+0+0-5+2 is 13; 1+1+1+0-5+2 is 0.
        Check.due("10: wear", 13, () -> x.thing(0, 4));
        Check.due("10: wear, 0 at least", 0, () -> x.thing(1, 4));
        Check.due("5: a day", 1, () -> Check.work(x, "day;"));
        Check.due("9: the day", 1, () -> x.told(2));
        Check.due("10: lighter", 17, () -> x.thing(0, 0));
        Check.due("10: not lighter", 3, () -> x.thing(1, 0));
        Check.due("5: to the end", 99, () -> Check.work(x, "again 60[day;];again 39[day;];"));
        Check.due("10: 1 at least", 1, () -> x.thing(0, 0));
        Check.work(x, "again 60[day;];again 60[day;];");
        Check.due("5: to day 300", 80, () -> Check.work(x, "again 60[day;];again 30[day;];"));
        Check.due("9: day 300", 300, () -> x.told(2));
        Check.due("9: refused", 10, () -> x.told(9));
        LeaningMarket usual = Check.open("thing 30;thing 30;");
        Check.due("5: weighed 8 times", 9, () -> Check.work(usual, "again 8[weigh 0 1 1 1;];day;"));
        Check.due("10: weighed / 4", 28, () -> usual.thing(0, 0));
    }

    private static void loops() {
        LeaningMarket x = Check.open("thing 1;");
        Check.due("5: again", 7, () -> Check.work(x, "again 3[feed 0 1;again 1[day;];];day;"));
        Check.due("10: fed thrice", 4, () -> x.thing(0, 0));
        Check.due("9: days", 4, () -> x.told(2));
        Check.due("5: none", 0, () -> Check.work(x, "again 0[day;];again 60[];again 60[again 60[];];"));
        Check.due("9: no day more", 4, () -> x.told(2));
        Check.due("5: six are open", 64, () -> Check.work(x,
            "again 2[again 2[again 2[again 2[again 2[again 2[day;];];];];];];"));
        Check.due("5: as many as can be told", 37, () -> Check.work(x, Check.times(37, "day;")));
        Check.due("5: in a loop", 70, () -> Check.work(x, "again2[" + Check.times(35, "day;") + "];"));
        Check.due("5: empty", 0, () -> Check.work(x, ""));
        Check.due("37: it is a work too", 6, () -> x.count(2));
    }

    private static void limits() {
        LeaningMarket x = Check.open("thing 1;");
        // An again and 60 rounds of 3 steps are 181, the next again is the 182nd: 18 days more.
        Check.due("5: 200 are begun", 138, () -> Check.work(x, "again 60[day;day;turn;];again 60[day;];feed 0 9;"));
        Check.due("9: days", 138, () -> x.told(2));
        Check.due("9: refused", 60, () -> x.told(9));
        LeaningMarket y = Check.open("thing 1;");
        // 1 and 60 * 3 are 181, the next two agains and 9 days 192: 8 turns more, all refused.
        Check.due("5: agains are begun each time", 129, () -> Check.work(y, "again 60[again 1[day;day;];];again 9[day;];"
            + "again 9[turn;];again 60[];"));
        Check.due("9: of these refused", 8, () -> y.told(9));
        LeaningMarket z = Check.open("thing 1;");
        Check.due("5: nested agains alone", 0, () -> Check.work(z, "again 60[again 60[again 60[again 60[];];];];day;"));
        Check.due("9: no day", 0, () -> z.told(2));
        LeaningMarket w = Check.open("thing 1;");
        Check.due("5: the last day is left out", 198, () -> Check.work(w, "again 60[day;day;day;];again 60[day;];day;"));
        LeaningMarket v = Check.open("thing 1;");
        Check.due("5: the 200th is begun", 198, () -> Check.work(v, "again 60[day;day;day;];again 17[day;];day;turn;"));
        Check.due("9: the 201st is not", 0, () -> v.told(9));
    }

    private static void fault(String text, long want, long fault) {
        LeaningMarket x = Check.open(SMALL);
        Check.work(x, "day;tip 0;");
        Check.due("5: " + text, want, () -> Check.work(x, text));
        Check.due("7: fault of " + text, fault, x::fault);
        Check.due("5: tape behind " + text, 0, () -> x.count(1));
        Check.due("5: none was done of " + text, 1, () -> x.told(2));
        Check.due("37: no work by " + text, 1, () -> x.count(2));
        Check.due("9: refused by the latest work, not by " + text, 1, () -> x.told(9));
    }

    private static void faults() {
        fault("day;days;", -9, 4);
        fault("day", -9, 3);
        fault("day;;", -9, 4);
        fault("dayz;", -9, 0);
        fault("day;weigh 3 1 0 1;", -8, 10);
        fault("day;weigh 0 0 1 1;", -8, 12);
        fault("day;weigh 0 1 0 1;", -8, 14);
        fault("day;weigh 0 1 3 1;", -8, 14);
        fault("day;weigh 0 1 1 10;", -8, 16);
        fault("day;weigh 0 1 1;", -9, 15);
        fault("day;tip 10;", -8, 8);
        fault("day;tip;", -9, 7);
        fault("day;feed 3 1;", -8, 9);
        fault("day;feed 0 0;", -8, 11);
        fault("day;feed 0 31;", -8, 11);
        fault("day;again 61[];", -8, 10);
        fault("day;again 1 day;", -9, 12);
        fault("day;again 1[day];", -9, 15);
        fault("day;again 1[day;;];", -9, 16);
        fault("day;again 1[day;]", -9, 17);
        fault("day;again 1[day;  ", -9, 18);
        fault("day;]", -9, 4);
        fault("day;again 1[];];", -9, 14);
        fault("day;" + Check.times(6, "again1[") + "again1[", -7, 46);
        fault("day;" + Check.times(6, "again1[") + " again", -7, 47);
        fault("day;" + Check.times(6, "again1[") + "agains", -9, 46);
        fault("day;" + Check.times(6, "again1["), -9, 46);
    }

    private static void undoing() {
        LeaningMarket x = Check.open(SMALL + "cry 1 1 2 1;");
        Check.due("8: there is none", -1, x::undo);
        Check.work(x, "day;");
        Check.work(x, "weigh 0 1 1 1;feed 1 5;turn;tip 0;tip 7;day;");
        Check.due("8: undone", 1, x::undo);
        int[] told = {3, 1, 1, 11, 1, 18, 0, 6, 0, 0, 0};
        for (int i = 0; i < told.length; i++) {
            int what = i;
            Check.due("8: told " + i, told[i], () -> x.told(what));
        }
        Check.due("8: weighed", 0, () -> x.thing(0, 2));
        cry(x, 0, 1, 1, 2, 1);
        Check.due("8: the first too", 0, x::undo);
        Check.due("8: day 0", 0, () -> x.told(2));
        Check.due("8: none is left", -1, x::undo);
        Check.law(x, "2");
        Check.book(x, "0 1 1;");
        Check.work(x, "day;");
        x.undo();
        Check.due("8: the law is no work", 2, () -> x.thing(0, 4));
        Check.due("8: nor is the book", 1, () -> x.told(8));
    }

    private static void sixteen() {
        LeaningMarket x = Check.open("thing 1;");
        for (int i = 1; i <= 16; i++) {
            Check.work(x, "day;");
        }
        Check.due("37: sixteen", 16, () -> x.count(2));
        Check.put(x, "x");
        Check.due("5: refused lengths come first", Check.ILLEGAL, () -> x.work(21));
        Check.due("5: nothing is read", -20, () -> x.work(1));
        Check.due("7: there is no fault", -1, x::fault);
        Check.due("5: the tape is empty", 0, () -> x.count(1));
        Check.due("5: nothing is done", 16, () -> x.told(2));
        Check.market(x, "x");
        Check.due("5: so too", -20, () -> Check.work(x, "day;"));
        Check.due("7: a fault ahead of it is forgotten", -1, x::fault);
        for (int i = 15; i >= 0; i--) {
            int left = i;
            Check.due("8: back to " + i, left, x::undo);
            Check.due("8: day " + i, left, () -> x.told(2));
        }
    }

    private static void images() {
        LeaningMarket x = Check.open(SMALL);
        Check.due("35: none", -1, x::restore);
        Check.work(x, "day;tip 0;");
        Check.due("34: one", 1, x::image);
        Check.work(x, "weigh 0 1 1 1;feed 1 3;");
        Check.due("34: two", 2, x::image);
        Check.work(x, "tip 0;turn;tip 0;");
        Check.due("34: three", 3, x::image);
        Check.due("34: no fourth", -1, x::image);
        Check.due("37: images", 3, () -> x.count(0));
        Check.law(x, "3");
        Check.due("9: refused", 1, () -> x.told(9));
        x.undo();
        x.undo();
        x.undo();
        Check.due("35: the latest", 2, x::restore);
        Check.due("35: lean", 7, () -> x.told(3));
        Check.due("35: works", 3, () -> x.count(2));
        Check.due("35: no refused step", 0, () -> x.told(9));
        Check.due("35: the law is no work's", 3, () -> x.thing(0, 4));
        Check.due("35: the one ahead", 1, x::restore);
        Check.due("35: lean", 11, () -> x.told(3));
        Check.due("35: cries", 1, () -> x.told(1));
        Check.due("35: weighings", 1, () -> x.told(10));
        Check.due("35: weight", 7, () -> x.thing(1, 0));
        Check.due("35: weighed", 1, () -> x.thing(1, 2));
        Check.due("35: works", 2, () -> x.count(2));
        Check.due("8: undone behind it", 1, x::undo);
        Check.due("8: weight", 4, () -> x.thing(1, 0));
        Check.due("35: the first", 0, x::restore);
        Check.due("35: day", 1, () -> x.told(2));
        Check.due("35: works", 1, () -> x.count(2));
        Check.due("35: gone", -1, x::restore);
        Check.due("34: room again", 1, x::image);
        Check.due("37: others", -1, () -> x.count(3));
        Check.due("37: others", -1, () -> x.count(-1));
        long before = x.status(1);
        Check.outcome(() -> x.told(99));
        x.restore();
        Check.due("36: no image keeps it", before + 1, () -> x.status(1));
    }
}
