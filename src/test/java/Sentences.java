import java.io.IOException;
import java.nio.file.Files;
import java.nio.file.Path;
import java.util.regex.Matcher;
import java.util.regex.Pattern;

/**
 * The sentences of the document, each with a test of its own. A test is told with
 * the words that it tests; so words that no test quotes are found.
 */
final class Sentences {
    /** The section "Description"; the promises are numbered as in the document. */
    static final int DESCRIPTION = 0;
    private static final int PROMISES = 48;
    /** The section "What it is". */
    static final int WHAT_IT_IS = PROMISES + 1;
    /** What says nothing by itself: headings, signatures (FaceTest has them), names of groups and of arguments. */
    private static final Pattern FRAME = Pattern.compile(
        "^##.*$|^`.*`$|^---- .*$|^- (`(\\w+)`:( the \\2$)?)?|^[A-Z]{2,}( [A-Z]+)*\\.|^The constants:$", Pattern.MULTILINE);
    private static final Pattern WORDS = Pattern.compile("[^\u0000]*[A-Za-z0-9][^\u0000]*");

    private static final String[] TEXTS = new String[PROMISES + 2];
    private static final boolean[][] QUOTED = new boolean[PROMISES + 2][];

    private Sentences() {
    }

    static void read(Path document) throws IOException {
        String text = Files.readString(document);
        keep(DESCRIPTION, text.substring(text.indexOf("## Description"), text.indexOf("## Promise 1:")));
        keep(WHAT_IT_IS, text.substring(text.indexOf("## What it is"), text.indexOf("## The public face")));
        for (int promise = 1; promise <= PROMISES; promise++) {
            int start = text.indexOf("## Promise " + promise + ":");
            keep(promise, text.substring(start, text.indexOf("\n## ", start)));
        }
    }

    private static void keep(int section, String text) {
        TEXTS[section] = plain(FRAME.matcher(text).replaceAll(""));
        QUOTED[section] = new boolean[TEXTS[section].length()];
    }

    private static String plain(String text) {
        return text.replace("`", "").replaceAll("\\s+", " ");
    }

    /** Runs the test of these words of a section. */
    static void test(int section, String words, Runnable body) {
        int start = TEXTS[section].indexOf(plain(words));
        Check.due("section " + section + " says '" + words + "'", start >= 0, true);
        for (int i = Math.max(0, start); i < start + plain(words).length(); i++) {
            QUOTED[section][i] = true;
        }
        int asked = Check.asked();
        int wrong = Check.wrong();
        body.run();
        Check.due("the test of '" + words + "' asks something", Check.asked() > asked, true);
        if (Check.wrong() > wrong) {
            System.out.println("  .. against section " + section + ": " + words);
        }
    }

    /** No word of the document stands outside the quotes. */
    static void allAreQuoted() {
        for (int section = 0; section < TEXTS.length; section++) {
            StringBuilder rest = new StringBuilder(TEXTS[section]);
            for (int i = 0; i < rest.length(); i++) {
                if (QUOTED[section][i]) {
                    rest.setCharAt(i, '\0');
                }
            }
            Matcher matcher = WORDS.matcher(rest);
            boolean found = matcher.find();
            Check.due("section " + section + ", no test of '" + (found ? matcher.group().strip() : "") + "'", found, false);
        }
    }
}
