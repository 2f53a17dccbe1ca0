import java.io.IOException;
import java.lang.reflect.Constructor;
import java.lang.reflect.Field;
import java.lang.reflect.Method;
import java.lang.reflect.Modifier;
import java.nio.file.Files;
import java.nio.file.Path;
import java.util.Arrays;
import java.util.List;
import java.util.Set;
import java.util.TreeSet;
import java.util.regex.Matcher;
import java.util.regex.Pattern;

/** The public face, read from the document itself, and those rules of LANGUAGE.md that a look at the text can judge. */
public final class FaceTest {
    private static final Path DOCUMENT = Path.of("../shared/DOC.md");
    private static final Path PROGRAM = Path.of("src/main/java/CoinSorter.java");

    public static void main(String[] args) throws IOException {
        constants();
        face();
        signatures();
        privateNames();
        fields();
        words();
        lengths();
        Check.end();
    }

    private static void constants() {
        Check.due("INVALID", CoinSorter.INVALID, -1);
        Check.due("ABSENT", CoinSorter.ABSENT, -2);
        Check.due("FULL", CoinSorter.FULL, -3);
        Check.due("LOOP", CoinSorter.LOOP, 20);
        Check.due("UNSURE", CoinSorter.UNSURE, 21);
        Check.due("COUNTERFEIT", CoinSorter.COUNTERFEIT, 22);
        Check.due("UNKNOWN", CoinSorter.UNKNOWN, 23);
        Check.due("JAM", CoinSorter.JAM, 24);
    }

    private static void face() throws IOException {
        String text = Files.readString(DOCUMENT);
        text = text.substring(text.indexOf("public final class CoinSorter {"), text.indexOf("## Description"));
        Set<String> due = new TreeSet<>();
        Matcher method = Pattern.compile("public (int|boolean) (\\w+)\\(([^)]*)\\)").matcher(text);
        while (method.find()) {
            due.add(method.group(1) + " " + method.group(2) + " " + method.group(3).replaceAll("int \\w+", "int").replace(" ", ""));
        }
        Check.due("methods of the document", due.size(), 47);
        Set<String> got = new TreeSet<>();
        for (Method m : CoinSorter.class.getDeclaredMethods()) {
            if (!Modifier.isPrivate(m.getModifiers())) {
                Check.due(m + " is public", Modifier.isPublic(m.getModifiers()) && !Modifier.isStatic(m.getModifiers()), true);
                List<String> types = Arrays.stream(m.getParameterTypes()).map(Class::getName).toList();
                got.add(m.getReturnType().getName() + " " + m.getName() + " " + String.join(",", types));
            }
        }
        Check.due("methods " + got + ", due " + due, got.equals(due), true);
        Constructor<?>[] constructors = CoinSorter.class.getDeclaredConstructors();
        Check.due("one public constructor", constructors.length == 1 && Modifier.isPublic(constructors[0].getModifiers()), true);
        Check.due("public and final", CoinSorter.class.getModifiers(), Modifier.PUBLIC | Modifier.FINAL);
    }

    /** Each line of the face stands in the program as in the document: the names of the arguments, and what is thrown. */
    private static void signatures() throws IOException {
        String text = Files.readString(DOCUMENT);
        String program = Files.readString(PROGRAM);
        String face = text.substring(text.indexOf("public final class CoinSorter {"), text.indexOf("## Description"));
        Matcher line = Pattern.compile("    (public [^;]*);").matcher(face);
        int lines = 0;
        while (line.find()) {
            boolean says = program.contains("\n    " + line.group(1) + " {\n") || program.contains("\n    " + line.group(1) + ";\n");
            Check.due("the program says '" + line.group(1) + "'", says, true);
            lines++;
        }
        Check.due("three lines with one constant, one with five, and 48 more", lines, 52);
        Matcher promise = Pattern.compile("## Promise (\\d+): .*\n\n`(.*)`\n").matcher(text);
        int promises = 0;
        while (promise.find()) {
            promises++;
            Check.due("the number of promise " + promises, Integer.parseInt(promise.group(1)), promises);
            Check.due("the face says '" + promise.group(2) + "'", face.contains("    public " + promise.group(2) + ";\n"), true);
        }
        Check.due("promises", promises, 48);
    }

    private static void privateNames() {
        Set<String> names = new TreeSet<>();
        for (Method m : CoinSorter.class.getMethods()) {
            names.add(m.getName());
        }
        for (Class<?> inside : classes()) {
            for (Method m : inside.getDeclaredMethods()) {
                if (Modifier.isPrivate(m.getModifiers())) {
                    Check.due("private " + m + " bears a name of its own", names.contains(m.getName()), false);
                }
                Check.due(m + " takes at most seven", m.getParameterCount() <= 7, true);
            }
        }
    }

    private static List<Class<?>> classes() {
        Class<?>[] inside = CoinSorter.class.getDeclaredClasses();
        Class<?>[] all = Arrays.copyOf(inside, inside.length + 1, Class[].class);
        all[inside.length] = CoinSorter.class;
        return List.of(all);
    }

    private static void fields() {
        Check.due("at most twelve classes", classes().size() <= 12, true);
        Set<String> open = new TreeSet<>();
        for (Class<?> c : classes()) {
            int count = 0;
            for (Field f : c.getDeclaredFields()) {
                if (Modifier.isStatic(f.getModifiers())) {
                    Check.due(f + " is final", Modifier.isFinal(f.getModifiers()), true);
                } else {
                    count++;
                }
                if (!Modifier.isPrivate(f.getModifiers())) {
                    open.add(f.getName());
                }
            }
            Check.due(c + " has at most twenty fields", count <= 20, true);
            Check.due(c + " is static", c == CoinSorter.class || Modifier.isStatic(c.getModifiers()), true);
        }
        Check.due("open fields " + open, open.equals(Set.of("INVALID", "ABSENT", "FULL", "LOOP", "UNSURE", "COUNTERFEIT",
            "UNKNOWN", "JAM")), true);
    }

    private static void words() throws IOException {
        String text = Files.readString(PROGRAM);
        String code = text.replaceAll("(?s)/\\*.*?\\*/", "").replaceAll("//[^\n]*", "");
        String[] banned = {"\\bpackage\\b", "->", "::", "\\btry\\b", "\\bcatch\\b", "\\bfinally\\b", "\\bsynchronized\\b",
            "\\bassert\\b", "Exact\\b", "\\bMAX_VALUE\\b", "\\bMIN_VALUE\\b", "\\bSystem\\.(?!arraycopy)", "\\bRandom\\b",
            "\\bThread\\b", "\\bObject\\b", "\\bhashCode\\b", "\\btoString\\b", "static \\{", "\\bprotected\\b"};
        for (String word : banned) {
            Matcher found = Pattern.compile(word).matcher(code);
            Check.due("the program holds " + word, found.find(), false);
        }
        Matcher imported = Pattern.compile("import ([^;]*);").matcher(code);
        while (imported.find()) {
            Check.due("import of " + imported.group(1), imported.group(1).equals("java.util.Arrays"), true);
        }
    }

    /** A method ends at the first line that closes with its own indentation. */
    private static void lengths() throws IOException {
        Matcher method = Pattern.compile("(?ms)^( +)(?:private|public) [^;={]*\\) [^;={]*\\{$.*?^\\1\\}$").matcher(Files.readString(PROGRAM));
        int methods = 0;
        while (method.find()) {
            methods++;
            String head = method.group().strip().lines().findFirst().orElse("");
            Check.due(head + " has at most sixty lines", method.group().lines().count() <= 60, true);
        }
        Check.due("more methods than the face has: " + methods, methods > 48, true);
    }
}
