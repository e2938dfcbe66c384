import java.io.IOException;
import java.io.UncheckedIOException;
import java.nio.file.Files;
import java.nio.file.Path;
import java.util.regex.Matcher;
import java.util.regex.Pattern;

/** A sentence of the document that names a boundary, and the test of its own that it has. */
final class Edge {
    private static final String DOC = read();
    private static final boolean[] QUOTED = new boolean[DOC.length()];

    /** Words by which a sentence names a boundary: none such may stand in the document without a test. */
    private static final Pattern BOUNDARY = Pattern.compile("\\b\\d+ to \\d+\\b|at most|\\bnone\\b|\\bNONE\\b|Exception:"
            + "|count for nothing|of several|nothing happens|nothing stays|nothing but|rounded down|at first|too many|empty, or"
            + "|deep|without\\b|goes round|modulo|remembered|also of one GONE|never nobody|at least|fewer than|below|at worst"
            + "|full\\b|can be\\b|greatest|latest|as it is|so far|a later|told first|used up|text's length|just|nobody|behind|twice");

    private Edge() {
    }

    private static String read() {
        try {
            return Files.readString(Path.of("../shared/DOC.md")).replaceAll("\\s+", " ");
        } catch (IOException e) {
            throw new UncheckedIOException(e);
        }
    }

    private static int beginOf(int promise) {
        return DOC.indexOf("## Promise " + promise + ":");
    }

    private static int endOf(int promise) {
        int next = DOC.indexOf("## ", beginOf(promise) + 3);
        return next < 0 ? DOC.length() : next;
    }

    /** The sentence stands under the promise's own heading, or under Terms. */
    static void of(int promise, String sentence, Check.Call test) {
        String name = "promise " + promise + ", \"" + sentence + "\"";
        if (!quote(sentence, beginOf(promise), endOf(promise)) && !quote(sentence, DOC.indexOf("## Terms"), beginOf(1))) {
            Check.is(name + " stands once in the document", false, true);
        }
        Check.under(name, test);
    }

    private static boolean quote(String sentence, int from, int to) {
        int place = DOC.indexOf(sentence, from);
        boolean here = place >= 0 && place + sentence.length() <= to;
        if (!here) {
            return false;
        }
        int again = DOC.indexOf(sentence, place + 1);
        boolean twice = again >= 0 && again + sentence.length() <= to;
        Check.is("\"" + sentence + "\" stands there once", twice, false);
        for (int i = 0; i < sentence.length(); i++) {
            QUOTED[place + i] = true;
        }
        return true;
    }

    /** Tells every boundary of the document that no test has quoted. */
    static void allHaveTests() {
        Matcher m = BOUNDARY.matcher(DOC);
        m.region(DOC.indexOf("## Terms"), DOC.indexOf("## Not promised"));
        while (m.find()) {
            String around = DOC.substring(Math.max(0, m.start() - 40), Math.min(DOC.length(), m.end() + 40));
            Check.is("a boundary has a test: \".." + around + "..\"", QUOTED[m.start()], true);
        }
    }
}
