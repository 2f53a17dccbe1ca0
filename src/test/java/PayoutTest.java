import java.util.Random;

/** Promises 31, 32 and 44: payouts. */
public final class PayoutTest {
    private static final int ABSENT = CoinSorter.ABSENT, INVALID = CoinSorter.INVALID;

    public static void main(String[] args) {
        fewestCoins();
        ties();
        wrongInputs();
        dispense();
        dispenseByBins();
        highestAmount();
        fullBins();
        againstAPlainSearch();
        Check.end();
    }

    /** A machine with a type and a bin for each value, and so many coins in each bin. */
    private static CoinSorter stocked(int[] values, int[] counts) {
        StringBuilder text = new StringBuilder();
        for (int type = 0; type < values.length; type++) {
            text.append("type ").append(values[type]).append(' ').append(1000 + 100 * type).append(" 9 5 9;");
        }
        for (int type = 0; type < values.length; type++) {
            text.append("bin ").append(type).append(" 100;");
        }
        CoinSorter x = Check.machine(text.toString());
        for (int type = 0; type < values.length; type++) {
            for (int i = 0; i < counts[type]; i++) {
                x.insert(1000 + 100 * type, 5);
                x.step();
            }
        }
        return x;
    }

    private static void payout(CoinSorter x, int amount, int... counts) {
        int sum = 0;
        for (int type = 0; type < counts.length; type++) {
            Check.due("payoutOf " + amount + ", " + type, x.payoutOf(amount, type), counts[type]);
            sum += counts[type];
        }
        Check.due("payoutCoins " + amount, x.payoutCoins(amount), sum);
    }

    private static void absent(CoinSorter x, int amount) {
        Check.due("payoutCoins " + amount, x.payoutCoins(amount), ABSENT);
        Check.due("payoutOf " + amount, x.payoutOf(amount, 0), ABSENT);
    }

    private static void fewestCoins() {
        CoinSorter x = stocked(new int[] {1, 5, 12}, new int[] {6, 3, 2});
        payout(x, 1, 1, 0, 0);
        payout(x, 6, 1, 1, 0);
        payout(x, 15, 0, 3, 0);
        payout(x, 16, 1, 3, 0);
        payout(x, 24, 0, 0, 2);
        payout(x, 25, 1, 0, 2);
        payout(x, 27, 0, 3, 1);
        payout(x, 45, 6, 3, 2);
        absent(x, 46);
        absent(x, 5000);
        CoinSorter y = stocked(new int[] {3, 5}, new int[] {9, 9});
        absent(y, 1);
        absent(y, 4);
        absent(y, 7);
        payout(y, 8, 1, 1);
        CoinSorter z = stocked(new int[] {10, 30, 40}, new int[] {9, 2, 1});
        payout(z, 60, 0, 2, 0);
        payout(z, 80, 1, 1, 1);
    }

    private static void ties() {
        payout(stocked(new int[] {2, 2}, new int[] {3, 3}), 8, 3, 1);
        payout(stocked(new int[] {1, 2, 3}, new int[] {5, 5, 5}), 4, 1, 0, 1);
        payout(stocked(new int[] {2, 1, 3}, new int[] {5, 5, 5}), 4, 2, 0, 0);
        payout(stocked(new int[] {3, 2, 1}, new int[] {5, 5, 5}), 4, 1, 0, 1);
        payout(stocked(new int[] {3, 1, 4, 2}, new int[] {5, 5, 5, 5}), 10, 2, 0, 1, 0);
        payout(stocked(new int[] {9, 3, 1, 4, 2}, new int[] {0, 1, 5, 1, 5}), 6, 0, 0, 0, 1, 1);
        payout(stocked(new int[] {5, 1, 2, 3, 4}, new int[] {0, 2, 2, 2, 2}), 6, 0, 0, 1, 0, 1);
    }

    private static void wrongInputs() {
        CoinSorter x = stocked(new int[] {1, 5}, new int[] {6, 3});
        for (int amount : new int[] {0, -1, 5001, Integer.MIN_VALUE, Integer.MAX_VALUE}) {
            Check.due("payoutCoins " + amount, x.payoutCoins(amount), INVALID);
            Check.due("payoutOf " + amount, x.payoutOf(amount, 0), INVALID);
            Check.due("dispense " + amount, x.dispense(amount), INVALID);
        }
        for (int type : new int[] {-1, 2, 8, Integer.MIN_VALUE, Integer.MAX_VALUE}) {
            Check.due("payoutOf type " + type, x.payoutOf(1, type), INVALID);
            Check.due("the type is checked first", x.payoutOf(4000, type), INVALID);
        }
        CoinSorter y = new CoinSorter();
        Check.due("payoutCoins without types", y.payoutCoins(1), ABSENT);
        Check.due("payoutOf without types", y.payoutOf(1, 0), INVALID);
        Check.due("dispense without types", y.dispense(1), ABSENT);
        CoinSorter z = Check.machine("type 1 2000 50 1000 100;");
        Check.due("a type without a bin", z.payoutOf(1, 0), ABSENT);
    }

    private static void dispense() {
        CoinSorter x = stocked(new int[] {1, 5, 12}, new int[] {6, 3, 2});
        Check.due("dispense 27", x.dispense(27), 4);
        Check.due("binCoins(0)", x.binCoins(0), 6);
        Check.due("binCoins(1)", x.binCoins(1), 0);
        Check.due("binCoins(2)", x.binCoins(2), 1);
        Check.due("binValue", x.binValue(), 18);
        Check.due("dispense 15 from what is left", x.dispense(15), 4);
        Check.due("dispense 12", x.dispense(12), ABSENT);
        Check.due("binValue", x.binValue(), 3);
        Check.due("undo", x.undo() > 0, true);
        Check.due("ABSENT was no change", x.binValue(), 18);
        Check.due("undo", x.undo() > 0, true);
        Check.due("binValue", x.binValue(), 45);
        Check.due("all", x.dispense(45), 11);
        Check.due("nothing is left", x.binValue(), 0);
        Check.due("nothing is left", x.payoutCoins(1), ABSENT);
    }

    private static void dispenseByBins() {
        CoinSorter x = Check.machine("type 5 2000 50 1000 100;type 1 1000 50 1000 100;bin 0 4;bin 1 9;bin 0 2;bin 0 3;");
        Check.insert(x, 8, 2000, 1000);
        Check.insert(x, 2, 1000, 1000);
        x.run(100);
        Check.due("binCoins(0)", x.binCoins(0), 3);
        Check.due("binCoins(2)", x.binCoins(2), 2);
        Check.due("binCoins(3)", x.binCoins(3), 3);
        Check.due("the bins of a type together", x.payoutOf(40, 0), 8);
        Check.due("dispense", x.dispense(21), 5);
        Check.due("as many as possible from the first", x.binCoins(0), 0);
        Check.due("one of the other type", x.binCoins(1), 1);
        Check.due("the rest from the next", x.binCoins(2), 1);
        Check.due("none from the last", x.binCoins(3), 3);
        Check.insert(x, 3, 2000, 1000);
        Check.due("a dispensed bin takes coins again", x.run(9), 3);
        Check.due("binCoins(2)", x.binCoins(2), 2);
        Check.due("binCoins(0)", x.binCoins(0), 2);
    }

    private static void highestAmount() {
        CoinSorter x = stocked(new int[] {500, 499, 1}, new int[] {10, 10, 20});
        payout(x, 5000, 10, 0, 0);
        payout(x, 4999, 9, 1, 0);
        payout(x, 4990, 0, 10, 0);
        payout(x, 4991, 1, 9, 0);
    }

    /**
     * 101 to the power of 8 ways to pay: the weights of the plan come near the end of their
     * range. Filling the bins takes more calls than an object is promised to answer; the
     * payout is right all the same.
     */
    private static void fullBins() {
        int[] values = {7, 7, 7, 7, 7, 7, 7, 7};
        int[] counts = {100, 100, 100, 100, 100, 100, 100, 100};
        CoinSorter x = stocked(values, counts);
        payout(x, 7, 1, 0, 0, 0, 0, 0, 0, 0);
        payout(x, 4998, 100, 100, 100, 100, 100, 100, 100, 14);
        absent(x, 4999);
        Check.due("dispense", x.dispense(4998), 714);
        Check.due("binCoins(6)", x.binCoins(6), 0);
        Check.due("binCoins(7)", x.binCoins(7), 86);
        CoinSorter y = stocked(new int[] {1, 2, 3, 4, 5, 6, 7, 8}, counts);
        payout(y, 3600, 100, 100, 100, 100, 100, 100, 100, 100);
        payout(y, 3599, 99, 100, 100, 100, 100, 100, 100, 100);
        payout(y, 808, 1, 0, 0, 0, 0, 0, 1, 100);
        CoinSorter z = Check.machine("type 1 1000 9 5 9;" + "bin 0 100;".repeat(8));
        for (int bin = 0; bin < 16; bin++) {
            Check.insert(z, 50, 1000, 5);
            z.run(100);
        }
        payout(z, 511, 511);
        payout(z, 512, 512);
        payout(z, 800, 800);
        absent(z, 801);
    }

    private static void againstAPlainSearch() {
        Random random = new Random(11);
        for (int round = 0; round < 150; round++) {
            int types = 1 + random.nextInt(8);
            int[] values = new int[types];
            int[] counts = new int[types];
            for (int type = 0; type < types; type++) {
                values[type] = 1 + random.nextInt(12);
                counts[type] = random.nextInt(types < 5 ? 7 : 4);
            }
            CoinSorter x = stocked(values, counts);
            for (int i = 0; i < 12; i++) {
                int amount = 1 + random.nextInt(60);
                int[] best = search(values, counts, amount, 0, new int[types], null);
                if (best == null) {
                    absent(x, amount);
                } else {
                    payout(x, amount, best);
                }
            }
        }
    }

    /** Tries every number of coins of each type, the greatest first; so of equals the first found is due. */
    private static int[] search(int[] values, int[] counts, int amount, int type, int[] chosen, int[] best) {
        if (type == values.length) {
            return amount == 0 && (best == null || sum(chosen) < sum(best)) ? chosen.clone() : best;
        }
        int[] found = best;
        for (int count = Math.min(counts[type], amount / values[type]); count >= 0; count--) {
            chosen[type] = count;
            found = search(values, counts, amount - count * values[type], type + 1, chosen, found);
        }
        chosen[type] = 0;
        return found;
    }

    private static int sum(int[] numbers) {
        int sum = 0;
        for (int number : numbers) {
            sum += number;
        }
        return sum;
    }
}
