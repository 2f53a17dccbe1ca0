import java.util.function.Consumer;
import java.util.function.Function;
import java.util.function.Supplier;

/**
 * Two objects that had the same calls, but one of them a call more: do they still
 * answer the same? They are asked in several ways, each of new twins, so that what
 * cannot be seen at once (the hopper's coins, the audits, the samples, the buffer,
 * the undo history, the slots) is seen too.
 */
final class Twins {
    private Twins() {
    }

    /** The call leaves everything as it is. */
    static void same(String name, Supplier<CoinSorter> maker, Consumer<CoinSorter> call) {
        same(name, maker, call, x -> { });
    }

    /** The two calls lead to the same. */
    static void same(String name, Supplier<CoinSorter> maker, Consumer<CoinSorter> one, Consumer<CoinSorter> other) {
        ask(name + ": what is seen", maker, one, other, Sight::of);
        ask(name + ": the undo history", maker, one, other, Twins::undoAll);
        ask(name + ": slot 0", maker, one, other, x -> x.restoreSnapshot(0) + Sight.of(x));
        ask(name + ": slot 1", maker, one, other, x -> x.restoreSnapshot(1) + Sight.of(x));
        ask(name + ": the buffer's length", maker, one, other, Twins::appendAll);
        ask(name + ": the buffer's bytes", maker, one, other, x -> x.parse(40) + Sight.of(x));
        ask(name + ": the coins", maker, one, other, Twins::stepAll);
        ask(name + ": the audits", maker, one, other, Twins::auditAll);
        ask(name + ": the samples", maker, one, other, Twins::costs);
        ask(name + ": the configuration", maker, one, other, Twins::classifyAll);
    }

    /** The same as an object has it that was made by other calls: what is seen, and what lies behind. */
    static void same(String name, Supplier<CoinSorter> maker, Supplier<CoinSorter> other) {
        Check.due(name + ": what is seen", Sight.of(maker.get()).equals(Sight.of(other.get())), true);
        Check.due(name + ": the undo history", undoAll(maker.get()).equals(undoAll(other.get())), true);
        Check.due(name + ": the coins", stepAll(maker.get()).equals(stepAll(other.get())), true);
        Check.due(name + ": the audits", auditAll(maker.get()).equals(auditAll(other.get())), true);
        Check.due(name + ": the samples", costs(maker.get()).equals(costs(other.get())), true);
        Check.due(name + ": the configuration", classifyAll(maker.get()).equals(classifyAll(other.get())), true);
    }

    private static void ask(String name, Supplier<CoinSorter> maker, Consumer<CoinSorter> one, Consumer<CoinSorter> other,
            Function<CoinSorter, String> question) {
        CoinSorter first = maker.get();
        CoinSorter second = maker.get();
        one.accept(first);
        other.accept(second);
        Check.due(name + " is the same", question.apply(first).equals(question.apply(second)), true);
    }

    private static String undoAll(CoinSorter x) {
        StringBuilder told = new StringBuilder();
        int left = 0;
        for (int i = 0; i < 13 && left >= 0; i++) {
            left = x.undo();
            told.append(left).append(": ").append(Sight.shortly(x));
        }
        return told.toString();
    }

    private static String appendAll(CoinSorter x) {
        StringBuilder told = new StringBuilder();
        for (int i = 0; i < 42; i++) {
            told.append(x.append(0, 0, 0, 0, 0)).append(' ');
        }
        return told.toString();
    }

    /** Steps until none is possible, with the gate cleared and the first bins emptied by the way. */
    private static String stepAll(CoinSorter x) {
        StringBuilder told = new StringBuilder();
        for (int i = 0; i < 70; i++) {
            told.append(x.step()).append(' ').append(x.clearJam()).append(' ');
            if (i % 10 == 9) {
                told.append(x.changeBag(i / 10 % 3)).append(' ');
            }
        }
        return told + Sight.shortly(x);
    }

    private static String auditAll(CoinSorter x) {
        StringBuilder told = new StringBuilder();
        for (int bag = 0; bag <= 30; bag++) {
            try {
                told.append(x.audit(bag, bag)).append(' ');
            } catch (RuntimeException e) {
                told.append(e.getClass().getName()).append(' ');
            }
        }
        return told + Sight.shortly(x);
    }

    private static String costs(CoinSorter x) {
        StringBuilder told = new StringBuilder();
        for (int margin = 0; margin <= 2000; margin += 10) {
            told.append(x.sampleCost(margin)).append(' ');
        }
        return told.toString();
    }

    private static String classifyAll(CoinSorter x) {
        StringBuilder told = new StringBuilder();
        for (int i = 0; i < 300; i++) {
            told.append(x.classify(1000 + 10 * i, 1000 + i % 7)).append(' ');
        }
        return told.toString();
    }
}
