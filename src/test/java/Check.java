import java.util.NoSuchElementException;

/** What the tests share: due answers, texts put on the tape, refusals as answers. */
final class Check {
    /** Stand for the exceptions, where a call's answer is compared. */
    static final long NO_SUCH = Long.MIN_VALUE;
    static final long ILLEGAL = Long.MIN_VALUE + 1;
    static final long ANOTHER = Long.MIN_VALUE + 2;

    private static int made = 0;
    private static int wrong = 0;

    interface Call {
        long answer();
    }

    private Check() {
    }

    static void due(String what, long want, Call call) {
        long got = outcome(call);
        made++;
        if (got != want) {
            wrong++;
            System.out.println(what + ": answered " + name(got) + ", due is " + name(want));
        }
    }

    static long outcome(Call call) {
        try {
            return call.answer();
        } catch (NoSuchElementException e) {
            return e.getClass() == NoSuchElementException.class ? NO_SUCH : ANOTHER;
        } catch (IllegalArgumentException e) {
            return e.getClass() == IllegalArgumentException.class ? ILLEGAL : ANOTHER;
        } catch (RuntimeException e) {
            System.out.println("thrown: " + e);
            return ANOTHER;
        }
    }

    static String name(long outcome) {
        return outcome == NO_SUCH ? "throws.NoSuchElementException"
            : outcome == ILLEGAL ? "throws.IllegalArgumentException"
            : outcome == ANOTHER ? "throws.another"
            : Long.toString(outcome);
    }

    /** Puts a text on the tape, with bytes 0 behind it up to a multiple of twenty. */
    static void put(LeaningMarket x, String text) {
        for (int from = 0; from < text.length(); from += 20) {
            int[] five = new int[5];
            for (int i = 0; i < 20; i++) {
                int sign = from + i < text.length() ? text.charAt(from + i) & 255 : 0;
                five[i / 4] |= sign << 24 - 8 * (i % 4);
            }
            x.feed(five[0], five[1], five[2], five[3], five[4]);
        }
    }

    static int market(LeaningMarket x, String text) {
        put(x, text);
        return x.market(text.length());
    }

    static int law(LeaningMarket x, String text) {
        put(x, text);
        return x.law(text.length());
    }

    static int work(LeaningMarket x, String text) {
        put(x, text);
        return x.work(text.length());
    }

    static int book(LeaningMarket x, String text) {
        put(x, text);
        return x.book(text.length());
    }

    static LeaningMarket open(String text) {
        LeaningMarket x = new LeaningMarket();
        int answer = market(x, text);
        if (answer < 0) {
            due("market " + text, 0, () -> answer);
        }
        return x;
    }

    static String times(int many, String text) {
        return text.repeat(many);
    }

    static void end() {
        System.out.println(made + " answers, " + wrong + " not as due");
        if (wrong != 0 || made == 0) {
            System.exit(1);
        }
    }
}
