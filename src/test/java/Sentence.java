import java.nio.file.Files;
import java.nio.file.Path;
import java.util.ArrayList;
import java.util.List;

/**
 * Which words of the document a test is about. They must stand there, the test must ask for an
 * answer, and in the end every clause of the document must have had a test.
 */
final class Sentence {
    static final int WHAT_IT_IS = -1;
    static final int TERMS = 0;
    private static final int PROMISES = 36;
    private static final String[] PARTS = new String[PROMISES + 2];
    private static final List<List<int[]>> QUOTED = new ArrayList<>();
    private static String latest = "";
    private static int answersAhead = 0;

    private Sentence() {
    }

    static void begin() throws Exception {
        String doc = Files.readString(Path.of("../shared/DOC.md")).replace("```text", " ").replace("```", " ");
        PARTS[0] = between(doc, "## What it is", "## The public face");
        PARTS[1] = between(doc, "## Terms", "## Promise 1:");
        for (int p = 1; p <= PROMISES; p++) {
            PARTS[p + 1] = between(doc, "## Promise " + p + ":", p < PROMISES ? "## Promise " + (p + 1) + ":" : "## Not promised");
        }
        for (int i = 0; i < PARTS.length; i++) {
            QUOTED.add(new ArrayList<>());
        }
    }

    private static String between(String doc, String from, String to) {
        int start = doc.indexOf(from) + from.length();
        return doc.substring(start, doc.indexOf(to, start)).replaceAll("\\s+", " ").trim();
    }

    /** The test that follows is about these words of a promise, of TERMS or of WHAT_IT_IS. */
    static void of(int promise, String words) {
        testHadAnswers();
        String where = promise > 0 ? "promise " + promise : promise == TERMS ? "terms" : "what it is";
        latest = where + ": " + words;
        Due.about("[" + latest + "] ");
        int at = PARTS[promise + 1].indexOf(words);
        Due.is("these words stand in the document", at >= 0, true);
        QUOTED.get(promise + 1).add(new int[] {at, at + words.length()});
        answersAhead = Due.answers();
    }

    private static void testHadAnswers() {
        if (!latest.isEmpty()) {
            Due.is("a test of its own", Due.answers() > answersAhead, true);
        }
    }

    static void end() {
        testHadAnswers();
        Due.about("");
        for (int part = 1; part < PARTS.length; part++) {
            int from = 0;
            // a stop or a semicolon ends a clause, the two dots of a range do not
            for (String clause : PARTS[part].split("(?<=;)|(?<=[^.][.])(?=\\s|$)")) {
                Due.is("no test for: " + clause, isQuoted(part, from, clause), true);
                from += clause.length();
            }
        }
    }

    private static boolean isQuoted(int part, int from, String clause) {
        if (clause.replaceAll("[^A-Za-z]", "").length() < 3) {
            return true;
        }
        for (int[] quote : QUOTED.get(part)) {
            if (quote[0] < from + clause.length() - 2 && quote[1] > from + 2) {
                return true;
            }
        }
        return false;
    }
}
