import java.io.IOException;
import java.nio.file.Files;
import java.nio.file.Path;
import java.util.regex.Matcher;
import java.util.regex.Pattern;

/**
 * The sentences of the document, each with a test of its own. A test is told with
 * the words that it tests; so a sentence that names a boundary case, and that no
 * test quotes, is found.
 */
final class Sentences {
    /** The section "Description"; the others are numbered as the promises are. */
    static final int DESCRIPTION = 0;
    private static final int PROMISES = 48;
    private static final Pattern BOUNDARY = Pattern.compile("INVALID|ABSENT|FULL|Throws|\\bfalse\\b|\\bempt(y|ies)\\b|\\bfull\\b"
        + "|at most|at least|out of (its )?range|no such|checked|nothing|\\bstays?\\b|of equals?\\b|lowest|latest|oldest"
        + "|too (many|early)|once|\\b\\d+ to |\\b0 or 1\\b|if there (is|are|was)|not possible|cannot|may be|rounded|without");

    private static final String[] TEXTS = new String[PROMISES + 1];
    private static final boolean[][] QUOTED = new boolean[PROMISES + 1][];

    private Sentences() {
    }

    static void read(Path document) throws IOException {
        String text = Files.readString(document);
        keep(DESCRIPTION, text.substring(text.indexOf("## Description"), text.indexOf("## Promise 1:")));
        for (int promise = 1; promise <= PROMISES; promise++) {
            int start = text.indexOf("## Promise " + promise + ":");
            keep(promise, text.substring(start, text.indexOf("\n## ", start)));
        }
    }

    private static void keep(int section, String text) {
        TEXTS[section] = plain(text);
        QUOTED[section] = new boolean[TEXTS[section].length()];
    }

    private static String plain(String text) {
        return text.replace("`", "").replaceAll("\\s+", " ");
    }

    /** Runs the test of these words of a section. */
    static void test(int section, String words, Runnable body) {
        int start = TEXTS[section].indexOf(plain(words));
        Check.due("section " + section + " says '" + words + "'", start >= 0, true);
        for (int i = Math.max(0, start); i < start + plain(words).length(); i++) {
            QUOTED[section][i] = true;
        }
        int asked = Check.asked();
        int wrong = Check.wrong();
        body.run();
        Check.due("the test of '" + words + "' asks something", Check.asked() > asked, true);
        if (Check.wrong() > wrong) {
            System.out.println("  .. against section " + section + ": " + words);
        }
    }

    /** No word that tells a boundary case stands outside the quotes. */
    static void allAreQuoted() {
        for (int section = 0; section <= PROMISES; section++) {
            Matcher matcher = BOUNDARY.matcher(TEXTS[section]);
            while (matcher.find()) {
                int start = matcher.start();
                String near = TEXTS[section].substring(Math.max(0, start - 40), Math.min(TEXTS[section].length(), start + 60));
                Check.due("section " + section + ", a test of '.." + near + "..'", QUOTED[section][start], true);
            }
        }
    }
}
