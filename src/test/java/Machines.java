/** Machines that many tests start from; each is made anew, with few calls. */
final class Machines {
    /** Types 0 and 1 have bins; types 2 and 3 overlap, and have none. */
    private static final String CONFIG = "type 1 1500 50 1000 100;type 20 2000 50 1000 100;type 300 2500 50 1000 100;"
        + "type 7 2540 50 1000 100;fake 3000 50 1000 100;bin 0 2;bin 1 5;bin 1 3;gate 3500;loop 3;margin 150;";

    private Machines() {
    }

    /** Has coins everywhere, sealed bags with and without an audit, samples, records, both slots and a full history. */
    static CoinSorter busyWithoutText() {
        CoinSorter x = Check.machine(CONFIG);
        Check.insert(x, 6, 1500, 1000);
        Check.insert(x, 4, 2000, 1000);
        for (int diameter : new int[] {3000, 100, 2500, 2520}) {
            x.insert(diameter, 1000);
        }
        x.run(100);
        x.saveSnapshot(0);
        x.changeBag(0);
        x.run(100);
        x.audit(0, 5);
        x.changeBag(2);
        x.addSample(1500, 1000, 0);
        x.addSample(2515, 1000, -1);
        x.addSample(1990, 1010, 0);
        x.saveSnapshot(1);
        x.calibrate(0, 1505, 990);
        x.setMargin(160);
        for (int diameter : new int[] {1500, 3600, 2000, 1500}) {
            x.insert(diameter, 1000);
        }
        x.dispense(1);
        return x;
    }

    /** The same with 40 bytes in the input buffer. */
    static CoinSorter busy() {
        CoinSorter x = busyWithoutText();
        Check.append(x, "type 9 1600 50 1000 100;margin 55;      ");
        return x;
    }

    static CoinSorter jammedWithoutText() {
        CoinSorter x = busyWithoutText();
        x.run(100);
        return x;
    }

    static CoinSorter jammed() {
        CoinSorter x = busy();
        x.run(100);
        return x;
    }

    /** Not jammed, the hopper is empty, and the coins in the loop have no bin. */
    static CoinSorter idle() {
        CoinSorter x = jammed();
        x.clearJam();
        x.run(100);
        return x;
    }

    /** The loop is full, and the next coin of the hopper has no bin. */
    static CoinSorter stopped() {
        CoinSorter x = idle();
        Check.insert(x, 2, 1500, 1000);
        x.run(100);
        return x;
    }

    static CoinSorter fullHopper() {
        CoinSorter x = busy();
        Check.insert(x, 60 - x.hopperSize(), 2000, 1000);
        return x;
    }

    static CoinSorter fullBags() {
        CoinSorter x = idle();
        for (int bag = x.bagCount(); bag < 30; bag++) {
            x.insert(2000, 1000);
            x.changeBag(x.step());
        }
        return x;
    }

    static CoinSorter fullSamples() {
        CoinSorter x = busy();
        for (int sample = x.sampleCount(); sample < 40; sample++) {
            x.addSample(2500 + sample, 1000, sample % 4);
        }
        return x;
    }

    /** That the machines are what their names say, or the tests on them say little. */
    static void test() {
        Check.due("busy: hopperSize", busy().hopperSize(), 4);
        Check.due("busy: loopSize", busy().loopSize(), 2);
        Check.due("busy: bagCount", busy().bagCount(), 2);
        Check.due("busy: sampleCount", busy().sampleCount(), 3);
        Check.due("busy: undo", busy().undo(), 11);
        Check.due("busy: slot 0", busy().restoreSnapshot(0), true);
        Check.due("busy: slot 1", busy().restoreSnapshot(1), true);
        Check.due("busy: offset", busy().alloyOffset(), 10);
        Check.due("busy: binCoins(0)", busy().binCoins(0), 1);
        Check.due("busy: discrepancy", busy().discrepancy(), 3);
        Check.due("busy: append", busy().append(0, 0, 0, 0, 0), 60);
        Check.due("busy: parse", busy().parse(40), 1);
        Check.due("jammed: isJammed", jammed().isJammed(), true);
        Check.due("jammed: hopperSize", jammed().hopperSize(), 2);
        Check.due("idle: isJammed", idle().isJammed(), false);
        Check.due("idle: hopperSize", idle().hopperSize(), 0);
        Check.due("idle: loopSize", idle().loopSize(), 3);
        Check.due("stopped: isStopped", stopped().isStopped(), true);
        Check.due("fullHopper: hopperSize", fullHopper().hopperSize(), 60);
        Check.due("fullBags: bagCount", fullBags().bagCount(), 30);
        Check.due("fullSamples: sampleCount", fullSamples().sampleCount(), 40);
    }
}
