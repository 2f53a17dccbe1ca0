/** Promises 46 to 48: undo and the snapshots. */
public final class ChangesTest {
    private static final int ABSENT = CoinSorter.ABSENT;
    private static final String CONFIG = "type 1 1500 50 1000 100;type 7 2000 50 1000 100;bin 0 2;bin 1 5;gate 3000;";

    public static void main(String[] args) {
        twelveChanges();
        failuresAreNoChanges();
        undoThenChange();
        snapshots();
        snapshotHoldsEverything();
        snapshotSlots();
        bufferIsNotUndone();
        Check.end();
    }

    private static void twelveChanges() {
        CoinSorter x = new CoinSorter();
        Check.due("nothing to undo", x.undo(), ABSENT);
        for (int i = 1; i <= 20; i++) {
            x.setMargin(i);
        }
        for (int i = 11; i >= 0; i--) {
            Check.due("undo", x.undo(), i);
            Check.due("margin", x.margin(), 8 + i);
        }
        Check.due("the thirteenth", x.undo(), ABSENT);
        Check.due("margin", x.margin(), 8);
    }

    private static CoinSorter busy() {
        CoinSorter x = Check.machine(CONFIG);
        Check.insert(x, 4, 1500, 1000);
        x.insert(2000, 1000);
        x.insert(100, 1000);
        x.run(6);
        x.insert(3500, 1000);
        x.insert(2000, 1000);
        return x;
    }

    private static void failuresAreNoChanges() {
        CoinSorter x = busy();
        x.calibrate(2, 1, 1);
        x.setMargin(2001);
        x.insert(0, 0);
        x.run(0);
        x.clearJam();
        x.changeBag(2);
        x.dispense(0);
        x.dispense(5000);
        x.addSample(0, 0, 0);
        x.saveSnapshot(0);
        x.restoreSnapshot(1);
        x.payoutCoins(8);
        x.bestMargin();
        Check.due("undo", x.undo(), 8);
        Check.due("the last insert is undone", x.hopperSize(), 1);
    }

    private static void undoThenChange() {
        CoinSorter x = new CoinSorter();
        x.setMargin(1);
        x.setMargin(2);
        x.setMargin(3);
        Check.due("undo", x.undo(), 2);
        Check.due("undo", x.undo(), 1);
        x.setMargin(7);
        Check.due("undo", x.undo(), 1);
        Check.due("margin", x.margin(), 1);
        Check.due("undo", x.undo(), 0);
        Check.due("margin", x.margin(), 100);
        Check.due("undo", x.undo(), ABSENT);
    }

    private static void snapshots() {
        CoinSorter x = busy();
        Check.due("restore from an empty slot", x.restoreSnapshot(0), false);
        Check.due("nothing changed", x.hopperSize(), 2);
        Check.due("saveSnapshot", x.saveSnapshot(0), true);
        Check.due("the history stays after saving", x.undo(), 8);
        x.setMargin(9);
        x.saveSnapshot(1);
        Check.due("restoreSnapshot(0)", x.restoreSnapshot(0), true);
        Check.due("margin", x.margin(), 100);
        Check.due("hopperSize", x.hopperSize(), 2);
        Check.due("the history is cleared", x.undo(), ABSENT);
        x.setMargin(11);
        Check.due("restoreSnapshot(1)", x.restoreSnapshot(1), true);
        Check.due("margin", x.margin(), 9);
        Check.due("hopperSize", x.hopperSize(), 1);
        x.setMargin(12);
        Check.due("the snapshot stays in its slot", x.restoreSnapshot(1), true);
        Check.due("margin", x.margin(), 9);
        x.setMargin(13);
        x.saveSnapshot(1);
        x.setMargin(14);
        x.restoreSnapshot(1);
        Check.due("saved in place of the other", x.margin(), 13);
        x.setMargin(15);
        x.saveSnapshot(0);
        x.undo();
        x.setMargin(16);
        x.undo();
        x.restoreSnapshot(0);
        Check.due("undo does not touch the slots", x.margin(), 15);
    }

    private static void snapshotHoldsEverything() {
        CoinSorter x = busy();
        x.changeBag(0);
        x.run(9);
        x.audit(0, 5);
        x.addSample(1500, 1000, 1);
        x.addSample(2000, 1000, -1);
        x.calibrate(0, 1505, 990);
        x.setMargin(77);
        String before = Sight.of(x);
        x.saveSnapshot(1);
        x.clearJam();
        x.run(9);
        x.changeBag(1);
        x.audit(1, 0);
        x.dispense(1);
        x.addSample(2000, 1000, 1);
        x.calibrate(0, 1500, 1000);
        x.setMargin(78);
        x.insert(1500, 1000);
        x.restoreSnapshot(1);
        Check.due("restored", Sight.of(x).equals(before), true);
        Check.thrown("the audit is restored", IllegalStateException.class, () -> x.audit(0, 5));
        x.clearJam();
        Check.due("the hopper is restored", x.step(), 1);
    }

    private static void snapshotSlots() {
        CoinSorter x = new CoinSorter();
        x.setMargin(5);
        for (int wrong : new int[] {-1, 2, Integer.MIN_VALUE, Integer.MAX_VALUE}) {
            Check.due("saveSnapshot " + wrong, x.saveSnapshot(wrong), false);
            Check.due("restoreSnapshot " + wrong, x.restoreSnapshot(wrong), false);
        }
        Check.due("slot 0 is empty", x.restoreSnapshot(0), false);
        Check.due("slot 1 is empty", x.restoreSnapshot(1), false);
        Check.due("a failure leaves the history", x.undo(), 0);
        Check.due("saveSnapshot(1)", x.saveSnapshot(1), true);
        Check.due("slot 0 is empty", x.restoreSnapshot(0), false);
        Check.due("restoreSnapshot(1)", x.restoreSnapshot(1), true);
        Check.due("margin", x.margin(), 100);
    }

    private static void bufferIsNotUndone() {
        CoinSorter x = new CoinSorter();
        x.saveSnapshot(0);
        x.setMargin(5);
        x.append(0, 0, 0, 0, 0);
        Check.due("append is no change", x.undo(), 0);
        Check.due("undo leaves the buffer", x.append(0, 0, 0, 0, 0), 40);
        x.restoreSnapshot(0);
        Check.due("restoreSnapshot leaves the buffer", x.append(0, 0, 0, 0, 0), 60);
    }
}
