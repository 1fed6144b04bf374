import java.lang.management.ManagementFactory;
import java.util.Random;

/**
 * The room of a run: what an object takes when it is made, and that its calls take next to nothing more;
 * then calls by any arguments whatever, which throw nothing but what the document names.
 */
public final class RoomTest {
    private static final int[] EDGES = {Integer.MIN_VALUE, Integer.MIN_VALUE + 1, -256, -17, -1, 0, 1, 2, 3, 6, 7, 8,
        9, 10, 15, 16, 18, 31, 60, 63, 96, 99, 127, 150, 255, 256, 300, 480, 600, 999, 9999, 65535, Integer.MAX_VALUE,
    };

    public static void main(String[] args) {
        room();
        anyArguments();
        Check.end();
    }

    private static long allocated() {
        com.sun.management.ThreadMXBean bean = (com.sun.management.ThreadMXBean) ManagementFactory.getThreadMXBean();
        return bean.getThreadAllocatedBytes(Thread.currentThread().getId());
    }

    private static void room() {
        dearCalls();
        long before = allocated();
        LeaningMarket made = new LeaningMarket();
        long object = allocated() - before;
        Check.due("an object, bytes " + object, 1, () -> object < 60000 && made.told(0) == 0 ? 1 : 0);
        long calls = dearCalls();
        Check.due("500 calls, bytes " + calls, 1, () -> calls < 20000 ? 1 : 0);
    }

    private static long dearCalls() {
        LeaningMarket x = Check.open(Check.times(8, "thing 60;") + "cry 0 1 1 2;cry 1 1 0 2;cry 1 1 2 2;cry 2 1 1 2;");
        Check.law(x, "least[weight,most[weighed,(cried+thing*day)/(lean+1)]]%7");
        long before = allocated();
        long sum = 0;
        for (int i = 0; i < 50; i++) {
            sum += x.span(i, 20, 96, 3, 0, 0) + x.mend() + x.fat() + x.above(0) + x.match(255, 0) + x.fewest(479)
                + x.level(255, 1) + x.look(0) + x.ahead(99, 2) + x.fits(0);
        }
        long after = allocated();
        return sum == 0 ? Long.MAX_VALUE : after - before;
    }

    private static void anyArguments() {
        Random random = new Random(7);
        for (int run = 0; run < 400; run++) {
            LeaningMarket x = new LeaningMarket();
            if (run % 4 != 0) {
                Check.market(x, "thing 5;thing 60;thing 1;thing 5;cry 0 1 1 2;cry 1 9 0 9;cry 2 3 1 1;beam 13 4;");
            }
            for (int call = 0; call < 500; call++) {
                int kind = random.nextInt(36);
                int[] v = new int[7];
                for (int i = 0; i < 7; i++) {
                    v[i] = random.nextInt(3) == 0 ? EDGES[random.nextInt(EDGES.length)] : random.nextInt(12) - 1;
                }
                if (Check.outcome(() -> call(x, kind, v)) == Check.ANOTHER) {
                    Check.due("call " + kind + " by " + java.util.Arrays.toString(v), 0, () -> Check.ANOTHER);
                }
            }
        }
        Check.due("any arguments", 0, () -> 0);
    }

    private static long call(LeaningMarket x, int kind, int[] v) {
        switch (kind) {
            case 0: return x.feed(v[0] * 16777259, v[1] * 16777259, 0x3b646179, 0x3b310a20, v[4]);
            case 1: return x.market(v[0]);
            case 2: return x.law(v[0]);
            case 3: return x.work(v[0]);
            case 4: return x.book(v[0]);
            case 5: return x.fault();
            case 6: return x.undo();
            case 7: return x.told(v[0]);
            case 8: return x.thing(v[0], v[1]);
            case 9: return x.cry(v[0], v[1]);
            case 10: return x.stands(v[0], v[1], v[2], v[3]);
            case 11: return x.would(v[0], v[1], v[2], v[3], v[4], v[5], v[6]);
            case 12: return x.ahead(v[0], v[1]);
            case 13: return x.worth(v[0], v[1], v[2]);
            case 14: return x.fattest(v[0]);
            case 15: return x.fat();
            case 16: return x.mend();
            case 17: return x.match(v[0], v[1]);
            case 18: return x.fewest(v[0]);
            case 19: return x.level(v[0], v[1]);
            case 20: return x.fits(v[0]);
            case 21: return x.look(v[0]);
            case 22: return x.falsely(v[0]);
            case 23: return x.sellers(v[0], v[1], v[2]);
            case 24: return x.even(v[0], v[1], v[2]);
            case 25: return x.share(v[0], v[1], v[2]);
            case 26: return x.heaviest(v[0]);
            case 27: return x.above(v[0]);
            case 28: return x.alike(v[0]);
            case 29: return x.against(v[0], v[1]);
            case 30: return x.fair(v[0], v[1], v[2], v[3]);
            case 31: return x.span(v[0], v[1], v[2], v[3], v[4], v[5]);
            case 32: return x.image();
            case 33: return x.restore();
            case 34: return x.status(v[0]);
            default: return x.count(v[0]);
        }
    }
}
