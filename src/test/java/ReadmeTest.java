import java.io.IOException;
import java.lang.reflect.InvocationTargetException;
import java.lang.reflect.Method;
import java.nio.file.Files;
import java.nio.file.Path;
import java.util.Arrays;
import java.util.regex.Matcher;
import java.util.regex.Pattern;

/** The examples of README.md, one after the other: each call has the answer that is told behind it. */
public final class ReadmeTest {
    private static final Path README = Path.of("README.md");
    private static final Path SOURCE = Path.of("src/test/java/ReadmeTest.java");
    /** A call, and behind it the first word of what it answers. */
    private static final Pattern CALL = Pattern.compile("(?s)^(?:sorter\\.(\\w+)\\((.*)\\)|load\\(sorter, (.*)\\));  // (-?\\w+)");

    public static void main(String[] args) throws IOException, ReflectiveOperationException {
        CoinSorter sorter = new CoinSorter();
        Matcher block = Pattern.compile("(?s)```java\n(.*?)```").matcher(Files.readString(README));
        int calls = 0;
        while (block.find()) {
            if (block.group(1).startsWith("static")) {
                // it is told as it is used here
                String method = block.group(1).indent(4).stripTrailing();
                Check.due("load is the one that is tested", Files.readString(SOURCE).contains(method), true);
            } else {
                calls += runBlock(sorter, block.group(1));
            }
        }
        Check.due("many calls are shown", calls > 40, true);
        Check.end();
    }

    private static int runBlock(CoinSorter sorter, String block) throws ReflectiveOperationException {
        int calls = 0;
        // a line that is indented goes on with the one before it
        for (String line : block.split("\n(?! )")) {
            if (!line.equals("CoinSorter sorter = new CoinSorter();")) {
                Matcher call = CALL.matcher(line);
                boolean found = call.find();
                Check.due("a call and its answer: " + line, found, true);
                String got = !found ? "" : call.group(1) == null ? "" + load(sorter, text(call.group(3)))
                    : answer(sorter, call.group(1), call.group(2));
                Check.due(line + " .. answered " + got, found && got.equals(call.group(4)), true);
                calls++;
            }
        }
        return calls;
    }

    /** The text that is written as one or more joined strings. */
    private static String text(String code) {
        StringBuilder text = new StringBuilder();
        Matcher part = Pattern.compile("\"([^\"]*)\"").matcher(code);
        while (part.find()) {
            text.append(part.group(1));
        }
        return text.toString();
    }

    private static String answer(CoinSorter sorter, String name, String arguments) throws ReflectiveOperationException {
        Object[] numbers = arguments.isEmpty() ? new Object[0] : Arrays.stream(arguments.split(", ")).map(Integer::decode).toArray();
        Class<?>[] types = new Class<?>[numbers.length];
        Arrays.fill(types, int.class);
        Method method = CoinSorter.class.getMethod(name, types);
        try {
            return method.invoke(sorter, numbers).toString();
        } catch (InvocationTargetException e) {
            return e.getCause().getClass().getSimpleName();
        }
    }

    static int load(CoinSorter sorter, String text) {
        int[] words = new int[(text.length() + 19) / 20 * 5];
        for (int i = 0; i < text.length(); i++) {
            words[i / 4] |= (text.charAt(i) & 255) << 24 - i % 4 * 8;
        }
        for (int i = 0; i < words.length; i += 5) {
            sorter.append(words[i], words[i + 1], words[i + 2], words[i + 3], words[i + 4]);
        }
        return sorter.parse(text.length());
    }
}
