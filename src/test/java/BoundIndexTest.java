import java.io.IOException;
import java.nio.file.Files;
import java.nio.file.Path;
import java.util.List;
import java.util.regex.Matcher;
import java.util.regex.Pattern;
import java.util.stream.Collectors;
import java.util.stream.Stream;

/**
 * That no boundary of the document is forgotten: every number and every word that names a bound or a refusal, from
 * the terms to the last promise, stands in a piece that some Bound test quotes with Check.says.
 */
public final class BoundIndexTest {
    private static final Pattern QUOTE = Pattern.compile("Check\\.says\\(\\s*((?:\"(?:[^\"\\\\]|\\\\.)*\"[\\s+]*)+)\\)");
    private static final Pattern PART = Pattern.compile("\"((?:[^\"\\\\]|\\\\.)*)\"");
    private static final Pattern BOUND = Pattern.compile("\\d[\\d,]*\\d|\\d|NONE|Exception|REFUSED|at most|at least|wrap"
        + "|empty|nothing|\\bnone\\b|without|Without|too many|too early|beyond|the first|the latest|the last");
    /** What is no sentence: headings, the calls' own lines, the marks between the terms' parts. */
    private static final Pattern SKIPPED = Pattern.compile("## Promise \\d+: \\w+|`(?:int|long) [^`]*`|==== \\d\\.|`LeaningMarket\\(\\)`");

    public static void main(String[] args) throws IOException {
        String document = Check.document();
        int from = document.indexOf("## Terms");
        int to = document.indexOf("## Not promised");
        Check.due("terms and promises stand there", 1, () -> from > 0 && to > from ? 1 : 0);
        boolean[] quoted = new boolean[document.length()];
        int pieces = 0;
        for (Path file : boundTests()) {
            Matcher m = QUOTE.matcher(Files.readString(file));
            while (m.find()) {
                mark(document, piece(m.group(1)), quoted);
                pieces++;
            }
        }
        int many = pieces;
        Check.due("so many pieces: " + many, 1, () -> many > 100 ? 1 : 0);
        Matcher skipped = SKIPPED.matcher(document);
        while (skipped.find()) {
            fill(quoted, skipped.start(), skipped.end());
        }
        Matcher bound = BOUND.matcher(document).region(Math.max(0, from), Math.max(0, to));
        while (bound.find()) {
            int at = bound.start();
            String around = document.substring(Math.max(0, at - 40), Math.min(document.length(), at + 30));
            Check.due("tested: " + bound.group() + " in '" + around + "'", 1, () -> quoted[at] ? 1 : 0);
        }
        Check.end();
    }

    private static List<Path> boundTests() throws IOException {
        try (Stream<Path> files = Files.list(Path.of("src/test/java"))) {
            return files.filter(f -> f.getFileName().toString().matches("Bound\\w+Test\\.java")).sorted()
                .collect(Collectors.toList());
        }
    }

    private static String piece(String literals) {
        StringBuilder s = new StringBuilder();
        Matcher m = PART.matcher(literals);
        while (m.find()) {
            s.append(m.group(1).replace("\\\"", "\"").replace("\\\\", "\\"));
        }
        return s.toString();
    }

    private static void mark(String document, String piece, boolean[] quoted) {
        int at = document.indexOf(piece);
        if (at >= 0) {
            fill(quoted, at, at + piece.length());
        }
    }

    private static void fill(boolean[] row, int from, int to) {
        for (int i = from; i < to; i++) {
            row[i] = true;
        }
    }
}
