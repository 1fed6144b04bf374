import java.io.IOException;
import java.nio.file.Files;
import java.nio.file.Path;
import java.util.NoSuchElementException;

/** What the tests share: due answers, texts put on the tape, refusals as answers. */
final class Check {
    /** Stand for the exceptions, where a call's answer is compared. */
    static final long NO_SUCH = Long.MIN_VALUE;
    static final long ILLEGAL = Long.MIN_VALUE + 1;
    static final long ANOTHER = Long.MIN_VALUE + 2;

    private static int made = 0;
    private static int wrong = 0;
    private static String sentence = "";
    private static String document = "";

    interface Call {
        long answer();
    }

    private Check() {
    }

    static void due(String what, long want, Call call) {
        long got = outcome(call);
        made++;
        if (got != want) {
            wrong++;
            String where = sentence.isEmpty() ? "" : "[" + sentence + "] ";
            System.out.println(where + what + ": answered " + name(got) + ", due is " + name(want));
        }
    }

    /** Names the piece of the document that is tested from here on; it must stand there, once. */
    static void says(String piece) {
        sentence = piece;
        String text = document();
        int at = text.indexOf(piece);
        due("stands in the document", 1, () -> at >= 0 ? 1 : 0);
        due("stands there once", -1, () -> text.indexOf(piece, at + 1));
    }

    /** The document, each run of blanks and line ends as one blank. Tests run in the project's root. */
    static String document() {
        if (document.isEmpty()) {
            try {
                document = Files.readString(Path.of("../shared/DOC.md")).replaceAll("\\s+", " ");
            } catch (IOException e) {
                System.out.println("no document: " + e);
            }
        }
        return document;
    }

    /** All that can be asked of how an object stands, but for the tape, the fault and what was refused. */
    static String standing(LeaningMarket x) {
        StringBuilder s = new StringBuilder();
        for (int what = 0; what <= 10; what++) {
            s.append(x.told(what)).append(' ');
        }
        for (int thing = 0; thing < x.told(0); thing++) {
            for (int what = 0; what <= 4; what++) {
                s.append(x.thing(thing, what)).append(' ');
            }
        }
        for (int cry = 0; cry < x.told(1); cry++) {
            for (int what = 0; what <= 3; what++) {
                s.append(x.cry(cry, what)).append(' ');
            }
        }
        s.append(x.count(0)).append(' ').append(x.count(2)).append(' ').append(x.fits(0)).append(' ')
            .append(x.fits(1)).append(' ').append(x.would(7, 9, 3, 2, 5, 11, 4));
        return s.toString();
    }

    /** A call by which the object stands as it stood. */
    static void stays(String what, LeaningMarket x, long want, Call call) {
        String before = standing(x);
        due(what, want, call);
        String after = standing(x);
        due(what + ": all stays: " + before + ", then " + after, 1, () -> before.equals(after) ? 1 : 0);
    }

    /** A call that throws: it is counted once, by its reason, and changes nothing else. */
    static void refused(String what, LeaningMarket x, long want, Call call) {
        int noSuch = x.status(0);
        int illegal = x.status(1);
        int tape = x.count(1);
        int fault = x.fault();
        stays(what, x, want, call);
        due(what + ": counted as no such", noSuch + (want == NO_SUCH ? 1 : 0), () -> x.status(0));
        due(what + ": counted as illegal", illegal + (want == ILLEGAL ? 1 : 0), () -> x.status(1));
        due(what + ": the tape stays", tape, () -> x.count(1));
        due(what + ": the fault stays", fault, x::fault);
    }

    static long outcome(Call call) {
        try {
            return call.answer();
        } catch (NoSuchElementException e) {
            return e.getClass() == NoSuchElementException.class ? NO_SUCH : ANOTHER;
        } catch (IllegalArgumentException e) {
            return e.getClass() == IllegalArgumentException.class ? ILLEGAL : ANOTHER;
        } catch (RuntimeException e) {
            System.out.println("thrown: " + e);
            return ANOTHER;
        }
    }

    static String name(long outcome) {
        return outcome == NO_SUCH ? "throws.NoSuchElementException"
            : outcome == ILLEGAL ? "throws.IllegalArgumentException"
            : outcome == ANOTHER ? "throws.another"
            : Long.toString(outcome);
    }

    /** Puts a text on the tape, with bytes 0 behind it up to a multiple of twenty. */
    static void put(LeaningMarket x, String text) {
        for (int from = 0; from < text.length(); from += 20) {
            int[] five = new int[5];
            for (int i = 0; i < 20 && from + i < text.length(); i++) {
                five[i / 4] |= (text.charAt(from + i) & 255) << 24 - 8 * (i % 4);
            }
            x.feed(five[0], five[1], five[2], five[3], five[4]);
        }
    }

    static int market(LeaningMarket x, String text) {
        put(x, text);
        return x.market(text.length());
    }

    static int law(LeaningMarket x, String text) {
        put(x, text);
        return x.law(text.length());
    }

    static int work(LeaningMarket x, String text) {
        put(x, text);
        return x.work(text.length());
    }

    static int book(LeaningMarket x, String text) {
        put(x, text);
        return x.book(text.length());
    }

    static LeaningMarket open(String text) {
        LeaningMarket x = new LeaningMarket();
        int answer = market(x, text);
        if (answer < 0) {
            due("market " + text, 0, () -> answer);
        }
        return x;
    }

    static String times(int many, String text) {
        return text.repeat(many);
    }

    static void end() {
        System.out.println(made + " answers, " + wrong + " not as due");
        if (wrong != 0 || made == 0) {
            System.exit(1);
        }
    }
}
