import com.sun.management.ThreadMXBean;
import java.lang.management.ManagementFactory;

/** All calls of a run live in one room: an object is small, and no call but an exception's makes another. */
public final class RoomTest {
    private static final String CONFIG = "type 1 1500 100 1000 100;type 2 1600 100 1000 100;fake 3000 50 1000 100;"
        + "bin 0 3;bin 1 50;gate 3500;loop 2;";
    private static final int[] WORDS = new int[5];
    private static final ThreadMXBean THREADS = (ThreadMXBean) ManagementFactory.getThreadMXBean();

    public static void main(String[] args) {
        // what the Java machine makes for itself at first use is not the program's
        use(new CoinSorter());
        THREADS.getCurrentThreadAllocatedBytes();

        long start = THREADS.getCurrentThreadAllocatedBytes();
        CoinSorter x = new CoinSorter();
        long made = THREADS.getCurrentThreadAllocatedBytes();
        for (int round = 0; round < 100; round++) {
            use(x);
        }
        long used = THREADS.getCurrentThreadAllocatedBytes();
        // 512 new objects in one run have 7,300,000 / 512 = 14,257 elements each, 40,000 bytes of them the payout's longs
        Check.due("a new object has " + (made - start) + " bytes, at most 90000", made - start <= 90000, true);
        Check.due("later calls make " + (used - made) + " bytes, at most 2000", used - made <= 2000, true);
        Check.end();
    }

    /** Every method at least once, without texts or exceptions. */
    private static void use(CoinSorter x) {
        x.append(0x20202020, 0x20202020, 0x20202020, 0x20202020, 0x20202020);
        x.append(0x78787878, 0, 0, 0, 0);
        x.parse(40);
        configure(x);
        for (int i = 0; i < 9; i++) {
            x.insert(1500 + 50 * (i % 3), 1000);
            x.addSample(1500 + 20 * i, 1000, i % 3 - 1);
        }
        x.insert(3600, 1000);
        x.step();
        x.saveSnapshot(0);
        x.run(100);
        x.isStopped();
        x.changeBag(0);
        x.run(100);
        x.clearJam();
        x.audit(0, 9);
        x.setMargin(50);
        x.calibrate(0, 1501, 1001);
        x.payoutCoins(5000);
        x.payoutOf(4, 1);
        x.dispense(3);
        x.sampleCost(x.bestMargin());
        look(x);
        x.undo();
        x.restoreSnapshot(0);
    }

    private static void configure(CoinSorter x) {
        int[] words = WORDS;
        for (int at = 0; at < CONFIG.length(); at += 20) {
            for (int i = 0; i < 20; i++) {
                char sign = at + i < CONFIG.length() ? CONFIG.charAt(at + i) : ' ';
                words[i / 4] = words[i / 4] << 8 | sign;
            }
            x.append(words[0], words[1], words[2], words[3], words[4]);
        }
        x.parse(CONFIG.length());
    }

    private static int look(CoinSorter x) {
        int sum = x.typeCount() + x.fakeCount() + x.binCount() + x.diameterOffset() + x.alloyOffset() + x.margin();
        sum += x.hopperSize() + x.loopSize() + x.stepCount() + x.binValue() + x.bagCount() + x.discrepancy();
        sum += x.worstBag() + x.sampleCount() + x.score(0, 1500, 1000) + x.classify(1500, 1000);
        for (int i = 0; i < 3; i++) {
            sum += x.typeValue(i) + x.binType(i) + x.bagSize(i) + x.loopType(i) + x.binCoins(i) + x.binFor(i);
            sum += x.rejected(21 + i) + x.record(i) + x.bagType(i) + x.bagCoins(i);
        }
        return x.isJammed() ? -sum : sum;
    }
}
