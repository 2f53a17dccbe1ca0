/** Promises 33 to 35 and 45: samples, their cost and the best margin. */
public final class SamplesTest {
    private static final int INVALID = CoinSorter.INVALID, FULL = CoinSorter.FULL;
    /** Scores at 2000 + d: 10 d and 10 (100 - d); the fake is far from both. */
    private static final String CONFIG = "type 1 2000 100 1000 100;type 2 2100 100 1000 100;fake 3000 100 1000 100;";

    public static void main(String[] args) {
        addSample();
        costs();
        bestMargin();
        bestMarginAtTheEnd();
        bestMarginIsTheLowest();
        bestMarginOfEqualScores();
        bestMarginByOne();
        neighbouringGaps();
        bestMarginOfAll();
        undoneSample();
        offsets();
        Check.end();
    }

    private static void addSample() {
        CoinSorter x = Check.machine(CONFIG);
        int[][] wrong = {{0, 0, 0}, {4001, 0, 0}, {1, -1, 0}, {1, 10000, 0}, {1, 0, 2}, {1, 0, -2}, {1, 0, 22},
            {1, 0, Integer.MIN_VALUE}, {1, 0, Integer.MAX_VALUE}, {Integer.MAX_VALUE, 0, 0}, {1, Integer.MIN_VALUE, 0}};
        for (int[] w : wrong) {
            Check.due("addSample " + w[0] + ", " + w[1] + ", " + w[2], x.addSample(w[0], w[1], w[2]), INVALID);
        }
        Check.due("sampleCount", x.sampleCount(), 0);
        Check.due("no change", x.undo(), CoinSorter.ABSENT);
        Check.due("addSample", x.addSample(1, 0, -1), 1);
        Check.due("addSample", x.addSample(4000, 9999, 1), 2);
        Check.due("undo", x.undo(), 1);
        Check.due("sampleCount", x.sampleCount(), 1);
        for (int i = 2; i <= 40; i++) {
            Check.due("addSample", x.addSample(2000, 1000, 0), i);
        }
        Check.due("40 samples", x.addSample(2000, 1000, 0), FULL);
        Check.due("range is checked first", x.addSample(2000, 1000, 2), INVALID);
        Check.due("sampleCount", x.sampleCount(), 40);
        CoinSorter y = new CoinSorter();
        Check.due("no types", y.addSample(2000, 1000, 0), INVALID);
        Check.due("no types, no genuine coin", y.addSample(2000, 1000, -1), 1);
    }

    private static void cost(int diameter, int label, int margin, int cost) {
        CoinSorter x = Check.machine(CONFIG);
        x.addSample(diameter, 1000, label);
        Check.due("cost of " + diameter + " as " + label + " at " + margin, x.sampleCost(margin), cost);
    }

    private static void costs() {
        cost(2010, 0, 100, 0);
        cost(2010, 1, 100, 5);
        cost(2010, -1, 100, 10);
        cost(2050, 0, 100, 1);
        cost(2050, 1, 100, 1);
        cost(2050, -1, 100, 0);
        cost(2050, 0, 0, 0);
        cost(2050, 1, 0, 5);
        cost(2050, 0, 1, 1);
        cost(3000, 0, 0, 1);
        cost(3000, -1, 0, 0);
        cost(500, 1, 0, 1);
        cost(500, -1, 0, 0);
        CoinSorter x = Check.machine(CONFIG);
        Check.due("no samples", x.sampleCost(0), 0);
        for (int wrong : new int[] {-1, 2001, Integer.MIN_VALUE, Integer.MAX_VALUE}) {
            Check.due("sampleCost " + wrong, x.sampleCost(wrong), INVALID);
        }
        x.addSample(2010, 1000, 1);
        x.addSample(2010, 1000, -1);
        x.addSample(2050, 1000, 0);
        Check.due("the sum", x.sampleCost(100), 5 + 10 + 1);
        Check.due("the highest margin", x.sampleCost(2000), 1 + 0 + 1);
        Check.due("the margin is not changed", x.margin(), 100);
    }

    private static void bestMargin() {
        CoinSorter x = Check.machine(CONFIG);
        Check.due("no samples", x.bestMargin(), 0);
        x.addSample(2040, 1000, -1);
        Check.due("just above the gap of 200", x.bestMargin(), 201);
        x.addSample(2035, 1000, 0);
        Check.due("a genuine coin with a gap of 300", x.bestMargin(), 201);
        x.addSample(2030, 1000, -1);
        Check.due("another with a gap of 400", x.bestMargin(), 401);
        Check.due("its cost", x.sampleCost(401), 1);
        Check.due("the margin is not changed", x.margin(), 100);
    }

    private static void bestMarginAtTheEnd() {
        CoinSorter x = Check.machine("type 1 2000 100 1000 1;type 2 2100 100 1001 1;type 3 2100 200 1000 200;");
        // type 0: 0; type 1: 2000
        x.addSample(2000, 1000, -1);
        Check.due("with a third type between", x.bestMargin(), 501);
        CoinSorter y = Check.machine("type 1 2000 100 1000 1;type 2 2100 100 1001 1;");
        y.addSample(2000, 1000, -1);
        Check.due("a gap of 2000 is not below any margin", y.bestMargin(), 0);
        Check.due("its cost", y.sampleCost(2000), 10);
        CoinSorter z = Check.machine("type 1 2000 200 1000 500;type 2 2199 200 1500 500;");
        z.addSample(2000, 1000, -1);
        Check.due("a gap of 1995", z.bestMargin(), 1996);
        CoinSorter w = Check.machine("type 1 2000 200 1000 500;type 2 2200 200 1499 500;");
        w.addSample(2000, 1000, -1);
        Check.due("a gap of 1998", w.bestMargin(), 1999);
    }

    private static void bestMarginIsTheLowest() {
        CoinSorter x = Check.machine(CONFIG);
        x.addSample(2040, 1000, 0);
        Check.due("a genuine coin", x.bestMargin(), 0);
        x.addSample(2045, 1000, 1);
        x.addSample(2030, 1000, 1);
        Check.due("5 + 5, then 1 + 5, then 1 + 5 + 1, then 3", x.bestMargin(), 401);
        x.addSample(2030, 1000, 0);
        x.addSample(2030, 1000, 0);
        x.addSample(2030, 1000, 0);
        Check.due("6 at 101, 7 at 201, 6 at 401", x.bestMargin(), 101);
        CoinSorter y = Check.machine(CONFIG);
        y.addSample(2030, 1000, 1);
        y.addSample(2045, 1000, 1);
        y.addSample(2030, 1000, 0);
        y.addSample(2030, 1000, 0);
        y.addSample(2030, 1000, 0);
        y.addSample(2030, 1000, 0);
        Check.due("the same cost at 101 and 401, told in another order", y.bestMargin(), 101);
    }

    private static void bestMarginOfEqualScores() {
        CoinSorter x = Check.machine(CONFIG);
        x.addSample(2050, 1000, -1);
        Check.due("unsure from margin 1 on", x.bestMargin(), 1);
        x.undo();
        x.addSample(2050, 1000, 1);
        Check.due("another type at margin 0", x.bestMargin(), 1);
        x.undo();
        x.addSample(2050, 1000, 0);
        Check.due("the lowest number at margin 0", x.bestMargin(), 0);
    }

    /** One wrong coin against so many right ones with the same gap. */
    private static void bestMarginByOne() {
        CoinSorter x = Check.machine(CONFIG);
        x.addSample(2040, 1000, 1);
        for (int right = 1; right <= 6; right++) {
            x.addSample(2040, 1000, 0);
            Check.due(right + " right coins", x.bestMargin(), right < 4 ? 201 : 0);
        }
    }

    private static void neighbouringGaps() {
        CoinSorter x = Check.machine("type 1 2000 100 1000 70;type 2 2100 100 1000 100;");
        // 2029, 1006: scores of 290 + 86 and 710 + 60; 2030, 1001: scores of 300 + 15 and 700 + 10
        x.addSample(2029, 1006, -1);
        Check.due("a gap of 394", x.bestMargin(), 395);
        for (int i = 0; i < 10; i++) {
            x.addSample(2030, 1001, 0);
        }
        Check.due("ten coins with a gap of 395", x.bestMargin(), 395);
        Check.due("none of them is unsure", x.sampleCost(395), 0);
        Check.due("all of them are unsure", x.sampleCost(396), 10);
    }

    private static void undoneSample() {
        CoinSorter x = Check.machine(CONFIG);
        x.addSample(2000, 1000, 0);
        x.addSample(2000, 1000, 1);
        x.undo();
        x.undo();
        Check.due("addSample", x.addSample(2000, 1000, -1), 1);
        Check.due("the label of now", x.sampleCost(0), 10);
        x.saveSnapshot(0);
        x.addSample(2000, 1000, 1);
        x.restoreSnapshot(0);
        Check.due("addSample", x.addSample(2000, 1000, 0), 2);
        Check.due("the labels of now", x.sampleCost(0), 10);
    }

    /** Against the plain search over all margins. */
    private static void bestMarginOfAll() {
        for (int count = 1; count <= 40; count++) {
            int best = 0;
            int least = Integer.MAX_VALUE;
            CoinSorter x = sampled(count);
            for (int margin = 0; margin <= 2000; margin++) {
                // an object is used for at most 512 calls
                x = margin % 400 == 399 ? sampled(count) : x;
                int cost = x.sampleCost(margin);
                best = cost < least ? margin : best;
                least = Math.min(least, cost);
            }
            Check.due("bestMargin of " + count, sampled(count).bestMargin(), best);
        }
    }

    /** So many samples near three types, the same at each call. */
    private static CoinSorter sampled(int count) {
        CoinSorter x = Check.machine(CONFIG + "type 3 2050 90 1000 100;");
        int seed = 7;
        for (int i = 0; i < count; i++) {
            seed = (seed * 1103515 + 12345) & 0xfffffff;
            x.addSample(1900 + seed / 8 % 300, 900 + seed / 4096 % 200, seed / 65536 % 4 - 1);
        }
        return x;
    }

    private static void offsets() {
        CoinSorter x = Check.machine(CONFIG);
        x.addSample(2040, 1000, -1);
        x.calibrate(0, 2020, 1000);
        Check.due("the offsets of now: 2020, a gap of 600", x.bestMargin(), 601);
        Check.due("sampleCost", x.sampleCost(600), 10);
        Check.due("sampleCost", x.sampleCost(601), 0);
    }
}
