import java.lang.reflect.InvocationTargetException;
import java.lang.reflect.Method;
import java.lang.reflect.Modifier;
import java.util.ArrayList;
import java.util.Comparator;
import java.util.List;
import java.util.Random;

/** No call throws but where the document says, whatever its arguments and the state. */
public final class WildTest {
    private static final String[] TEXTS = {
        "", "type 1 2000 200 1000 500;bin 0 1;loop 0;", "type 500 1000 1 0 1;fake 4000 200 9999 500;gate 1000;",
        "type 3 2000 200 1000 500;type 3 2100 200 1000 500;bin 0 2;bin 1 3;bin 0 100;loop 20;margin 0;",
        "type 1 2000 200 5 500;".repeat(8) + "bin 7 100;bin 0 100;".repeat(4), "type 1", "bin 0 5;", "\0\0", "gate 99999;"};
    private static final int[] EDGES = {Integer.MIN_VALUE, -10000, -2, -1, 0, 1, 2, 7, 8, 20, 21, 24, 29, 30, 39, 40, 60, 100,
        101, 200, 500, 800, 1000, 2000, 2001, 4000, 4001, 5000, 5001, 9999, 10000, Integer.MAX_VALUE};

    public static void main(String[] args) throws IllegalAccessException {
        List<Method> methods = new ArrayList<>();
        for (Method m : CoinSorter.class.getDeclaredMethods()) {
            if (Modifier.isPublic(m.getModifiers())) {
                methods.add(m);
            }
        }
        // reflection tells them in no certain order
        methods.sort(Comparator.comparing(Method::getName));
        Random random = new Random(5);
        for (int run = 0; run < 400; run++) {
            CoinSorter x = new CoinSorter();
            for (int call = 0; call < 512; call++) {
                if (random.nextInt(100) == 0) {
                    Check.append(x, TEXTS[random.nextInt(TEXTS.length)]);
                }
                call(x, methods.get(random.nextInt(methods.size())), random);
            }
        }
        Check.end();
    }

    private static void call(CoinSorter x, Method method, Random random) throws IllegalAccessException {
        Object[] arguments = new Object[method.getParameterCount()];
        for (int i = 0; i < arguments.length; i++) {
            arguments[i] = argument(random);
        }
        boolean right = true;
        try {
            method.invoke(x, arguments);
        } catch (InvocationTargetException e) {
            StackTraceElement[] trace = e.getCause().getStackTrace();
            boolean own = trace.length > 0 && trace[0].getClassName().equals("CoinSorter");
            right = own && List.of(method.getExceptionTypes()).contains(e.getCause().getClass());
        }
        Check.due(method.getName() + " throws only what is due", right, true);
    }

    private static int argument(Random random) {
        switch (random.nextInt(4)) {
            case 0:
                return EDGES[random.nextInt(EDGES.length)];
            case 1:
                return random.nextInt(3);
            case 2:
                return 1900 + random.nextInt(300);
            default:
                return random.nextInt(9) == 0 ? random.nextInt() : random.nextInt(1100);
        }
    }
}
