/** Promises 15 to 25 and 38 to 41: the hopper, the loop, the bins and the steps. */
public final class MachineTest {
    private static final int LOOP = CoinSorter.LOOP, UNSURE = CoinSorter.UNSURE, COUNTERFEIT = CoinSorter.COUNTERFEIT;
    private static final int UNKNOWN = CoinSorter.UNKNOWN, JAM = CoinSorter.JAM;
    private static final int ABSENT = CoinSorter.ABSENT, INVALID = CoinSorter.INVALID, FULL = CoinSorter.FULL;
    /** Types 0, 1 and 2 at the diameters 1500, 2000 and 2500. */
    private static final String TYPES = "type 1 1500 50 1000 100;type 20 2000 50 1000 100;type 300 2500 50 1000 100;";

    public static void main(String[] args) {
        insert();
        binFor();
        loopIsServedFirst();
        loopSkipsCoinsWithoutRoom();
        gate();
        outcomes();
        stopped();
        noLoop();
        fullLoop();
        run();
        runIsOneChange();
        records();
        binValue();
        measurementsAreKept();
        wrongIndexes();
        Check.end();
    }

    private static void insert() {
        CoinSorter x = new CoinSorter();
        int[][] wrong = {{0, 0}, {4001, 0}, {1, -1}, {1, 10000}, {Integer.MIN_VALUE, 0}, {1, Integer.MAX_VALUE}};
        for (int[] w : wrong) {
            Check.due("insert " + w[0] + ", " + w[1], x.insert(w[0], w[1]), INVALID);
        }
        Check.due("hopperSize", x.hopperSize(), 0);
        Check.due("insert the least", x.insert(1, 0), 1);
        Check.due("insert the most", x.insert(4000, 9999), 2);
        for (int i = 3; i <= 60; i++) {
            Check.due("insert " + i, x.insert(1000, 500), i);
        }
        Check.due("insert into a full hopper", x.insert(1000, 500), FULL);
        Check.due("range is checked first", x.insert(0, 500), INVALID);
        Check.due("hopperSize", x.hopperSize(), 60);
        Check.due("step", x.step(), UNKNOWN);
        Check.due("hopperSize", x.hopperSize(), 59);
        Check.due("insert again", x.insert(1000, 500), 60);
    }

    private static void binFor() {
        CoinSorter x = Check.machine(TYPES + "bin 0 4;bin 1 1;bin 0 2;bin 0 2;");
        Check.due("needs the fewest, of equals the lowest", x.binFor(0), 2);
        Check.due("binFor(1)", x.binFor(1), 1);
        Check.due("no bin", x.binFor(2), ABSENT);
        Check.due("no type", x.binFor(3), INVALID);
        Check.due("no type", x.binFor(-1), INVALID);
        Check.insert(x, 8, 1500, 1000);
        int[] bins = {2, 2, 3, 3, 0, 0, 0, 0};
        for (int bin : bins) {
            Check.due("binFor(0)", x.binFor(0), bin);
            Check.due("step", x.step(), bin);
        }
        Check.due("all full", x.binFor(0), ABSENT);
        Check.due("binCoins(0)", x.binCoins(0), 4);
        Check.due("binCoins(1)", x.binCoins(1), 0);
        Check.due("binCoins(2)", x.binCoins(2), 2);
        x.changeBag(0);
        Check.due("after changeBag", x.binFor(0), 0);
        x.changeBag(3);
        Check.due("after changeBag", x.binFor(0), 3);
    }

    private static void loopIsServedFirst() {
        CoinSorter x = Check.machine(TYPES + "bin 0 1;bin 1 1;");
        x.insert(1500, 1000);
        x.insert(2000, 1000);
        x.insert(1500, 1000);
        x.insert(2000, 1000);
        x.insert(1500, 1000);
        x.insert(100, 100);
        Check.due("run", x.run(5), 5);
        Check.due("loopSize", x.loopSize(), 3);
        Check.due("loopType(0)", x.loopType(0), 0);
        Check.due("loopType(1)", x.loopType(1), 1);
        Check.due("loopType(2)", x.loopType(2), 0);
        Check.due("loopType(3)", x.loopType(3), INVALID);
        Check.due("loopType(-1)", x.loopType(-1), INVALID);
        x.changeBag(0);
        Check.due("the loop first", x.step(), 0);
        Check.due("loopType(0)", x.loopType(0), 1);
        Check.due("loopType(1)", x.loopType(1), 0);
        Check.due("then the hopper", x.step(), UNKNOWN);
        Check.due("no step", x.step(), ABSENT);
        Check.due("an empty hopper does not stop the machine", x.isStopped(), false);
    }

    private static void loopSkipsCoinsWithoutRoom() {
        CoinSorter x = Check.machine(TYPES + "bin 0 1;bin 1 1;bin 2 1;");
        int[] diameters = {1500, 2000, 2500, 1500, 2000, 2500, 2000};
        for (int diameter : diameters) {
            x.insert(diameter, 1000);
        }
        Check.due("run", x.run(100), 7);
        x.changeBag(1);
        Check.due("the oldest coin that has room", x.step(), 1);
        Check.due("loopSize", x.loopSize(), 3);
        Check.due("loopType(0)", x.loopType(0), 0);
        Check.due("loopType(1)", x.loopType(1), 2);
        Check.due("loopType(2)", x.loopType(2), 1);
        x.calibrate(0, 1000, 1000);
        x.changeBag(2);
        Check.due("its type is known, whatever the offsets", x.step(), 2);
    }

    private static void gate() {
        CoinSorter x = Check.machine(TYPES + "bin 2 5;gate 2500;");
        x.insert(2500, 1000);
        x.insert(2501, 1000);
        x.insert(2500, 1000);
        Check.due("as wide as the gate", x.step(), 0);
        Check.due("wider than the gate", x.step(), JAM);
        Check.due("isJammed", x.isJammed(), true);
        Check.due("isStopped", x.isStopped(), false);
        Check.due("the coin has left the hopper", x.hopperSize(), 1);
        Check.due("no step", x.step(), ABSENT);
        Check.due("no run", x.run(5), 0);
        Check.due("stepCount", x.stepCount(), 2);
        Check.due("record", x.record(1), JAM);
        Check.due("not yet removed", x.rejected(JAM), 0);
        Check.due("insert while jammed", x.insert(1, 1), 2);
        Check.due("clearJam", x.clearJam(), true);
        Check.due("isJammed", x.isJammed(), false);
        Check.due("removed", x.rejected(JAM), 1);
        Check.due("clearJam again", x.clearJam(), false);
        Check.due("clearJam is no step", x.stepCount(), 2);
        Check.due("step", x.step(), 0);
        Check.due("clearJam was a change", undoTwice(x), true);
        x.clearJam();
        x.calibrate(2, 2600, 1000);
        x.run(2);
        x.insert(2600, 1000);
        Check.due("the gate sees what is measured", x.step(), JAM);
        x.clearJam();
        x.calibrate(2, 2400, 1000);
        x.insert(2450, 1000);
        Check.due("not what is corrected", x.step(), 0);
    }

    /** Undoes a step and the clearJam before it. */
    private static boolean undoTwice(CoinSorter x) {
        x.undo();
        boolean clear = !x.isJammed();
        x.undo();
        return clear && x.isJammed() && x.rejected(JAM) == 0;
    }

    private static void outcomes() {
        CoinSorter x = Check.machine("type 1 1500 100 1000 100;type 2 1600 100 1000 100;type 3 2500 50 1000 100;"
            + "fake 3000 50 1000 100;bin 1 1;bin 0 3;");
        int[][] coins = {{1500, 1000}, {1550, 1000}, {3000, 1000}, {3500, 1000}, {2500, 1000}, {1600, 1000}, {1600, 1000}};
        int[] outcomes = {1, UNSURE, COUNTERFEIT, UNKNOWN, UNKNOWN, 0, LOOP};
        for (int i = 0; i < coins.length; i++) {
            x.insert(coins[i][0], coins[i][1]);
            Check.due("step " + i, x.step(), outcomes[i]);
            Check.due("record " + i, x.record(i), outcomes[i]);
            Check.due("stepCount " + i, x.stepCount(), i + 1);
        }
        Check.due("rejected UNSURE", x.rejected(UNSURE), 1);
        Check.due("rejected COUNTERFEIT", x.rejected(COUNTERFEIT), 1);
        Check.due("rejected UNKNOWN, with the type that has no bin", x.rejected(UNKNOWN), 2);
        Check.due("rejected JAM", x.rejected(JAM), 0);
        for (int outcome : new int[] {LOOP, 25, 0, -1, ABSENT, Integer.MAX_VALUE, Integer.MIN_VALUE}) {
            Check.due("rejected " + outcome, x.rejected(outcome), INVALID);
        }
        Check.due("classify does not look at bins", x.classify(2500, 1000), 2);
    }

    private static void stopped() {
        CoinSorter x = Check.machine(TYPES + "bin 0 1;loop 1;gate 3000;");
        Check.insert(x, 3, 1500, 1000);
        Check.due("not yet", x.isStopped(), false);
        Check.due("step", x.step(), 0);
        Check.due("the loop has room", x.isStopped(), false);
        Check.due("step", x.step(), LOOP);
        Check.due("no room", x.isStopped(), true);
        Check.due("step", x.step(), ABSENT);
        Check.due("the coin stays", x.hopperSize(), 1);
        Check.due("no step is counted", x.stepCount(), 2);
        Check.due("no record", x.record(2), INVALID);
        Check.due("undo undoes the step before", x.undo(), 4);
        Check.due("loopSize", x.loopSize(), 0);
        x.step();
        x.setMargin(0);
        x.calibrate(1, 1500, 1000);
        Check.due("the next coin is now of a type without a bin", x.isStopped(), false);
        Check.due("step", x.step(), UNKNOWN);
        Check.due("an empty hopper", x.isStopped(), false);
        x.insert(3500, 1000);
        Check.due("a coin that jams is a step", x.isStopped(), false);
        Check.due("step", x.step(), JAM);
        Check.due("jammed is not stopped", x.isStopped(), false);
    }

    private static void noLoop() {
        CoinSorter x = Check.machine(TYPES + "bin 0 1;bin 1 1;loop 0;");
        Check.insert(x, 2, 1500, 1000);
        x.insert(2000, 1000);
        Check.due("run", x.run(10), 1);
        Check.due("isStopped", x.isStopped(), true);
        Check.due("binFor(1) has room, but is not next", x.binFor(1), 1);
        x.changeBag(0);
        Check.due("run", x.run(10), 2);
        Check.due("loopSize", x.loopSize(), 0);
    }

    private static void fullLoop() {
        CoinSorter x = Check.machine(TYPES + "bin 0 1;loop 20;");
        Check.insert(x, 25, 1500, 1000);
        Check.due("run", x.run(100), 21);
        Check.due("loopSize", x.loopSize(), 20);
        Check.due("loopType(19)", x.loopType(19), 0);
        Check.due("loopType(20)", x.loopType(20), INVALID);
        Check.due("isStopped", x.isStopped(), true);
        Check.due("hopperSize", x.hopperSize(), 4);
    }

    private static void run() {
        CoinSorter x = Check.machine(TYPES + "bin 0 100;bin 0 100;gate 2000;");
        for (int n : new int[] {0, -1, 101, Integer.MIN_VALUE, Integer.MAX_VALUE}) {
            Check.due("run " + n, x.run(n), INVALID);
        }
        Check.due("run of nothing", x.run(100), 0);
        Check.insert(x, 60, 1500, 1000);
        Check.due("run(1)", x.run(1), 1);
        Check.due("run(40)", x.run(40), 40);
        x.insert(2001, 1000);
        x.insert(1500, 1000);
        Check.due("run until the jam", x.run(100), 20);
        Check.due("hopperSize", x.hopperSize(), 1);
        x.clearJam();
        Check.insert(x, 59, 1500, 1000);
        Check.due("run", x.run(100), 60);
        Check.due("stepCount", x.stepCount(), 121);
        Check.due("binCoins(0)", x.binCoins(0), 100);
        Check.due("binCoins(1)", x.binCoins(1), 19 + 1);
    }

    private static void runIsOneChange() {
        CoinSorter x = Check.machine(TYPES + "bin 0 100;");
        Check.insert(x, 3, 1500, 1000);
        Check.due("run", x.run(3), 3);
        Check.due("run that does nothing", x.run(3), 0);
        Check.due("run out of range", x.run(0), INVALID);
        Check.due("step that does nothing", x.step(), ABSENT);
        Check.due("undo", x.undo(), 3);
        Check.due("hopperSize", x.hopperSize(), 3);
        Check.due("binCoins", x.binCoins(0), 0);
        Check.due("stepCount", x.stepCount(), 0);
        Check.due("record", x.record(0), INVALID);
    }

    private static void records() {
        CoinSorter x = Check.machine(TYPES + "bin 0 100;");
        for (int i = 0; i < 60; i++) {
            x.insert(i % 7 == 0 ? 100 : 1500, 1000);
        }
        x.run(39);
        Check.due("record(0)", x.record(0), UNKNOWN);
        Check.due("record(38)", x.record(38), 0);
        Check.due("record(39)", x.record(39), INVALID);
        x.run(1);
        Check.due("record(0)", x.record(0), UNKNOWN);
        Check.due("record(39)", x.record(39), 0);
        x.run(1);
        Check.due("record(0)", x.record(0), 0);
        Check.due("record(40)", x.record(40), INVALID);
        x.run(100);
        for (int i = 0; i < 40; i++) {
            Check.due("record " + i, x.record(i), (i + 20) % 7 == 0 ? UNKNOWN : 0);
        }
        Check.due("record(-1)", x.record(-1), INVALID);
        Check.due("record(40)", x.record(40), INVALID);
        Check.due("stepCount", x.stepCount(), 60);
    }

    private static void binValue() {
        CoinSorter x = Check.machine(TYPES + "bin 2 2;bin 1 5;bin 2 2;bin 0 9;loop 20;");
        Check.insert(x, 5, 2500, 1000);
        Check.insert(x, 3, 2000, 1000);
        Check.insert(x, 2, 1500, 1000);
        x.insert(1, 1);
        Check.due("in the hopper", x.binValue(), 0);
        x.run(100);
        Check.due("binValue", x.binValue(), 4 * 300 + 3 * 20 + 2);
        x.changeBag(2);
        Check.due("without sealed bags", x.binValue(), 2 * 300 + 3 * 20 + 2);
    }

    /** A coin in the hopper has still the measurements that it was inserted with. */
    private static void measurementsAreKept() {
        CoinSorter x = Check.machine("type 1 4000 1 9999 1;type 1 1000 1 0 1;type 1 1000 1 9999 1;type 1 4000 1 0 1;"
            + "bin 0 9;bin 1 9;bin 2 9;bin 3 9;");
        int[][] coins = {{4000, 9999}, {1000, 0}, {1000, 9999}, {4000, 0}, {3999, 9998}, {1001, 1}, {999, 9998}, {3999, 1}};
        for (int[] coin : coins) {
            x.insert(coin[0], coin[1]);
        }
        for (int i = 0; i < coins.length; i++) {
            Check.due("coin " + i, x.step(), i % 4);
        }
        x.insert(3998, 9999);
        x.insert(1000, 2);
        Check.due("too small", x.step(), UNKNOWN);
        Check.due("another alloy", x.step(), UNKNOWN);
        x.insert(1, 0);
        x.insert(1, 9999);
        x.calibrate(1, 1, 0);
        Check.due("the least", x.step(), 1);
        x.calibrate(2, 1, 9999);
        Check.due("the least diameter, the highest alloy", x.step(), 2);
    }

    private static void wrongIndexes() {
        CoinSorter x = Check.machine(TYPES + "bin 0 1;bin 1 1;");
        for (int wrong : new int[] {-1, 2, 8, 100, Integer.MIN_VALUE, Integer.MAX_VALUE}) {
            Check.due("binCoins " + wrong, x.binCoins(wrong), INVALID);
            Check.due("loopType " + wrong, x.loopType(wrong), INVALID);
            Check.due("record " + wrong, x.record(wrong), INVALID);
        }
        for (int wrong : new int[] {-1, 3, 8, Integer.MIN_VALUE, Integer.MAX_VALUE}) {
            Check.due("binFor " + wrong, x.binFor(wrong), INVALID);
        }
        Check.due("binCoins(1)", x.binCoins(1), 0);
        Check.due("loopType of an empty loop", x.loopType(0), INVALID);
    }
}
