import java.nio.charset.StandardCharsets;
import java.util.Arrays;

/** What the tests have in common: counting answers, and loading a configuration text. */
final class Check {
    private static int asked = 0;
    private static int wrong = 0;

    private Check() {
    }

    static void due(String call, long got, long want) {
        asked++;
        if (got != want) {
            wrong++;
            System.out.println(call + " answered " + got + ", due is " + want);
        }
    }

    static void due(String call, boolean got, boolean want) {
        due(call, got ? 1 : 0, want ? 1 : 0);
    }

    static int asked() {
        return asked;
    }

    static int wrong() {
        return wrong;
    }

    static void thrown(String call, Class<? extends RuntimeException> want, Runnable body) {
        Class<?> got = null;
        try {
            body.run();
        } catch (RuntimeException e) {
            got = e.getClass();
        }
        due(call + " throws " + want.getSimpleName() + ", not " + got, got == want, true);
    }

    /** Ends the test; the exit code tells whether every answer was as due. */
    static void end() {
        System.out.println(asked + " answers, " + wrong + " not as due");
        if (asked == 0 || wrong != 0) {
            System.exit(1);
        }
    }

    /** Appends a text, filled up to whole appends with zero bytes; returns the last append's answer. */
    static int append(CoinSorter x, String text) {
        byte[] bytes = text.getBytes(StandardCharsets.ISO_8859_1);
        int answer = 0;
        for (int at = 0; at < bytes.length; at += 20) {
            byte[] part = Arrays.copyOf(Arrays.copyOfRange(bytes, at, Math.min(bytes.length, at + 20)), 20);
            answer = x.append(word(part, 0), word(part, 4), word(part, 8), word(part, 12), word(part, 16));
        }
        return answer;
    }

    private static int word(byte[] bytes, int at) {
        return (bytes[at] & 255) << 24 | (bytes[at + 1] & 255) << 16 | (bytes[at + 2] & 255) << 8 | (bytes[at + 3] & 255);
    }

    /** Appends and parses a text on an object whose buffer is empty. */
    static int load(CoinSorter x, String text) {
        append(x, text);
        return x.parse(text.length());
    }

    static CoinSorter machine(String text) {
        CoinSorter x = new CoinSorter();
        int answer = load(x, text);
        if (answer < 0) {
            due("parse of " + text, answer, 0);
        }
        return x;
    }

    static void insert(CoinSorter x, int count, int diameter, int alloy) {
        for (int i = 0; i < count; i++) {
            x.insert(diameter, alloy);
        }
    }
}
