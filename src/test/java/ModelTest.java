import java.lang.reflect.InvocationTargetException;
import java.lang.reflect.Method;
import java.lang.reflect.Modifier;
import java.nio.charset.StandardCharsets;
import java.util.ArrayList;
import java.util.Arrays;
import java.util.Collections;
import java.util.Comparator;
import java.util.List;
import java.util.Random;

/** Random runs of 512 calls on the program and on the Model: every answer must be the same. */
public final class ModelTest {
    private static final int RUNS = 300;
    /** What a run asks for more often, by its sort: the machine must fill up to show its edges. */
    private static final List<List<String>> OFTEN = List.of(
        List.of("insert", "insert", "run", "step", "step", "classify", "score", "loopType", "isStopped", "binFor"),
        List.of("insert", "run", "changeBag", "changeBag", "audit", "audit", "bagCoins", "worstBag", "discrepancy"),
        List.of("insert", "insert", "insert", "run", "run", "payoutCoins", "payoutOf", "payoutOf", "dispense"),
        List.of("addSample", "addSample", "addSample", "sampleCost", "bestMargin", "classify", "calibrate"));
    /** What brings the machine back to where it was is seldom asked for, or nothing would ever fill up. */
    private static final List<String> SELDOM = List.of("restoreSnapshot", "undo");

    private final Random random;
    private final CoinSorter program = new CoinSorter();
    private final Model model = new Model();
    private final List<Method> calls = new ArrayList<>();
    private final List<String> told = new ArrayList<>();

    private ModelTest(long seed) {
        // the first numbers of neighbouring seeds are much alike
        random = new Random(seed * 0x9E3779B97F4A7C15L);
        List<String> often = OFTEN.get(random.nextInt(OFTEN.size()));
        int weight = 1 + random.nextInt(8);
        for (Method method : CoinSorter.class.getDeclaredMethods()) {
            if (Modifier.isPublic(method.getModifiers()) && !List.of("append", "parse").contains(method.getName())) {
                int times = 1 + weight * Collections.frequency(often, method.getName());
                calls.addAll(Collections.nCopies(times, method));
            }
        }
        // reflection tells them in no certain order
        calls.sort(Comparator.comparing(Method::getName));
    }

    public static void main(String[] args) throws ReflectiveOperationException {
        long first = args.length > 0 ? Long.parseLong(args[0]) : 1;
        long runs = args.length > 1 ? Long.parseLong(args[1]) : RUNS;
        for (long seed = first; seed < first + runs; seed++) {
            if (!new ModelTest(seed).isSame()) {
                System.out.println("in the run of seed " + seed);
                break;
            }
        }
        Check.end();
    }

    private boolean isSame() throws ReflectiveOperationException {
        boolean same = configure();
        for (int again = 0; again < 3 && same && model.binCount() == 0; again++) {
            same = configure();
        }
        for (int call = 0; call < 512 && same; call++) {
            if (random.nextInt(300) == 0) {
                same = configure();
            } else if (model.isJammed() && random.nextInt(5) == 0) {
                same = ask("clearJam");
            } else {
                Method method = calls.get(random.nextInt(calls.size()));
                if (!SELDOM.contains(method.getName()) || random.nextInt(8) == 0) {
                    same = ask(method.getName(), arguments(method));
                }
            }
        }
        if (!same) {
            told.forEach(System.out::println);
        }
        return same;
    }

    private boolean ask(String name, Object... arguments) throws ReflectiveOperationException {
        Class<?>[] types = new Class<?>[arguments.length];
        Arrays.fill(types, int.class);
        Object want = answer(Model.class.getDeclaredMethod(name, types), model, arguments);
        Object got = answer(CoinSorter.class.getDeclaredMethod(name, types), program, arguments);
        told.add(name + Arrays.toString(arguments) + " " + got);
        Check.due(name + Arrays.toString(arguments) + ": " + got + ", due is " + want, got.equals(want), true);
        return got.equals(want);
    }

    private static Object answer(Method method, Object on, Object[] arguments) throws ReflectiveOperationException {
        try {
            return method.invoke(on, arguments);
        } catch (InvocationTargetException e) {
            return e.getCause().getClass();
        }
    }

    private boolean configure() throws ReflectiveOperationException {
        String text = random.nextInt(3) == 0 ? spoilt(text()) : text();
        byte[] bytes = text.getBytes(StandardCharsets.ISO_8859_1);
        boolean same = true;
        for (int at = 0; at < bytes.length && same; at += 20) {
            Object[] words = new Object[5];
            for (int i = 0; i < 5; i++) {
                words[i] = 0;
                for (int j = 0; j < 4; j++) {
                    int offset = at + 4 * i + j;
                    words[i] = (int) words[i] << 8 | (offset < bytes.length ? bytes[offset] & 255 : 32);
                }
            }
            same = ask("append", words);
        }
        return same && ask("parse", random.nextInt(20) == 0 ? random.nextInt(bytes.length + 30) : bytes.length);
    }

    private String text() {
        int types = random.nextInt(10) == 0 ? 0 : 1 + random.nextInt(random.nextBoolean() ? 8 : 3);
        StringBuilder text = new StringBuilder();
        for (int i = 0; i < types; i++) {
            text.append("type ").append(1 + random.nextInt(random.nextBoolean() ? 20 : 500)).append(kind());
        }
        for (int i = random.nextBoolean() ? 0 : random.nextInt(5); i > 0; i--) {
            text.append("fake").append(kind());
        }
        int most = random.nextInt(3) == 0 ? 4 : 100;
        for (int i = types == 0 ? 0 : random.nextInt(9); i > 0; i--) {
            int size = 1 + random.nextInt(most);
            text.append("bin ").append(random.nextBoolean() ? i % types : random.nextInt(types)).append(' ').append(size).append(';');
        }
        if (random.nextInt(3) == 0) {
            text.append("gate ").append(2000 + random.nextInt(600)).append(';');
        }
        if (random.nextBoolean()) {
            text.append("loop ").append(random.nextInt(random.nextBoolean() ? 21 : 3)).append(";\n");
        }
        if (random.nextBoolean()) {
            text.append("margin ").append(random.nextInt(random.nextBoolean() ? 2001 : 200)).append(';');
        }
        return text.toString();
    }

    private String kind() {
        boolean wide = random.nextBoolean();
        return " " + (1990 + random.nextInt(400)) + " " + (1 + random.nextInt(wide ? 200 : 40)) + " "
            + (1000 + random.nextInt(400)) + " " + (1 + random.nextInt(wide ? 500 : 60)) + (random.nextBoolean() ? ";" : "\n; ");
    }

    private String spoilt(String text) {
        StringBuilder spoilt = new StringBuilder(text + " ");
        String signs = "0123456789;; \nabtypegloinmrk!\0\u00ff";
        for (int i = random.nextInt(3); i >= 0; i--) {
            int at = random.nextInt(spoilt.length());
            char sign = signs.charAt(random.nextInt(signs.length()));
            switch (random.nextInt(4)) {
                case 0 -> spoilt.deleteCharAt(at).append(' ');
                case 1 -> spoilt.insert(at, sign);
                case 2 -> spoilt.setCharAt(at, sign);
                default -> spoilt.append(text, 0, Math.min(text.length(), random.nextInt(30)));
            }
        }
        return spoilt.toString();
    }

    private Object[] arguments(Method method) {
        Object[] arguments = new Object[method.getParameterCount()];
        for (int i = 0; i < arguments.length; i++) {
            arguments[i] = random.nextInt(40) == 0 ? wild() : random.nextInt(12);
        }
        switch (method.getName()) {
            case "typeValue", "score", "binFor", "calibrate" -> arguments[0] = index(model.typeCount());
            case "payoutOf" -> arguments[1] = index(model.typeCount());
            case "binType", "bagSize", "binCoins", "changeBag" -> arguments[0] = index(model.binCount());
            case "bagType", "bagCoins", "audit" -> arguments[0] = index(model.bagCount());
            case "loopType" -> arguments[0] = index(model.loopSize());
            case "record" -> arguments[0] = index(Math.min(40, model.stepCount()));
            default -> {
            }
        }
        switch (method.getName()) {
            case "score", "calibrate" -> measure(arguments, 1);
            case "classify", "insert", "addSample" -> measure(arguments, 0);
            default -> {
            }
        }
        switch (method.getName()) {
            case "addSample" -> arguments[2] = random.nextInt(Math.max(1, model.typeCount()) + 1) - 1;
            case "rejected" -> arguments[0] = 19 + random.nextInt(7);
            case "run" -> arguments[0] = random.nextInt(random.nextBoolean() ? 5 : 103);
            case "setMargin", "sampleCost" -> arguments[0] = random.nextInt(random.nextBoolean() ? 200 : 2010) - 3;
            case "payoutCoins", "payoutOf", "dispense" -> arguments[0] = amount();
            case "saveSnapshot", "restoreSnapshot" -> arguments[0] = random.nextInt(4) - 1;
            case "audit" -> arguments[1] = random.nextInt(random.nextBoolean() ? 8 : 205) - 1;
            default -> {
            }
        }
        return arguments;
    }

    /** Mostly one of so many, sometimes just outside. */
    private int index(int count) {
        return random.nextInt(8) == 0 ? random.nextInt(count + 2) - 1 : random.nextInt(count + 1);
    }

    /** Mostly what some of the coins in the bins are worth. */
    private int amount() {
        if (random.nextInt(6) == 0) {
            return random.nextInt(5003);
        }
        int sum = random.nextInt(8) == 0 ? 1 : 0;
        for (int bin = 0; bin < model.binCount(); bin++) {
            int value = model.typeValue(model.binType(bin));
            sum += value * random.nextInt(1 + model.binCoins(bin) / (1 + random.nextInt(3)));
        }
        return sum;
    }

    private int wild() {
        return random.nextBoolean() ? random.nextInt() : random.nextInt(70) - 5;
    }

    /** Mostly a coin near a type or a fake, as the offsets are now. */
    private void measure(Object[] arguments, int at) {
        List<Model.Kind> kinds = new ArrayList<>(model.config.types);
        kinds.addAll(random.nextInt(3) == 0 ? model.config.fakes : List.of());
        if (kinds.isEmpty() || random.nextInt(20) == 0) {
            arguments[at] = random.nextInt(4003);
            arguments[at + 1] = random.nextInt(10003) - 1;
            return;
        }
        Model.Kind kind = kinds.get(random.nextInt(kinds.size()));
        int spread = random.nextInt(3);
        arguments[at] = kind.diameter() - model.data.diameterOffset + near(kind.diameterTolerance(), spread);
        arguments[at + 1] = kind.alloy() - model.data.alloyOffset + near(kind.alloyTolerance(), spread);
    }

    private int near(int tolerance, int spread) {
        int widest = spread == 0 ? 0 : spread == 1 ? tolerance / 4 : tolerance + 1;
        return random.nextInt(2 * widest + 1) - widest;
    }
}
