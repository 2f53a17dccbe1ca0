/** Promises 26 to 30, 42 and 43: sealed bags and their audits. */
public final class BagsTest {
    private static final int ABSENT = CoinSorter.ABSENT, INVALID = CoinSorter.INVALID, FULL = CoinSorter.FULL;
    private static final String CONFIG = "type 5 1500 50 1000 100;type 20 2000 50 1000 100;bin 0 3;bin 1 100;bin 0 50;";

    public static void main(String[] args) {
        changeBag();
        changeBagFull();
        audit();
        auditThrows();
        worstBag();
        smallestPart();
        Check.end();
    }

    private static CoinSorter filled(int small, int large) {
        CoinSorter x = Check.machine(CONFIG);
        Check.insert(x, small, 1500, 1000);
        Check.insert(x, large, 2000, 1000);
        x.run(100);
        return x;
    }

    private static void changeBag() {
        CoinSorter x = filled(4, 2);
        Check.due("bagCount", x.bagCount(), 0);
        for (int wrong : new int[] {-1, 3, 8, Integer.MIN_VALUE, Integer.MAX_VALUE}) {
            Check.due("changeBag " + wrong, x.changeBag(wrong), INVALID);
        }
        Check.due("a bag that is not full", x.changeBag(1), 0);
        Check.due("a full bag", x.changeBag(0), 1);
        Check.due("an empty bag", x.changeBag(0), ABSENT);
        Check.due("changeBag", x.changeBag(2), 2);
        Check.due("bagCount", x.bagCount(), 3);
        int[] types = {1, 0, 0};
        int[] coins = {2, 3, 1};
        for (int bag = 0; bag < 3; bag++) {
            Check.due("bagType " + bag, x.bagType(bag), types[bag]);
            Check.due("bagCoins " + bag, x.bagCoins(bag), coins[bag]);
            Check.due("binCoins " + bag, x.binCoins(bag), 0);
        }
        for (int wrong : new int[] {-1, 3, 30, Integer.MIN_VALUE, Integer.MAX_VALUE}) {
            Check.due("bagType " + wrong, x.bagType(wrong), INVALID);
            Check.due("bagCoins " + wrong, x.bagCoins(wrong), INVALID);
        }
        Check.due("a change", x.undo() >= 0, true);
        Check.due("bagCount", x.bagCount(), 2);
        Check.due("binCoins", x.binCoins(2), 1);
    }

    private static void changeBagFull() {
        CoinSorter x = Check.machine(CONFIG);
        for (int bag = 0; bag < 30; bag++) {
            x.insert(2000, 1000);
            x.step();
            Check.due("changeBag", x.changeBag(1), bag);
        }
        Check.due("empty is checked before", x.changeBag(1), ABSENT);
        x.insert(2000, 1000);
        x.step();
        Check.due("30 sealed bags", x.changeBag(1), FULL);
        Check.due("the bin is checked first", x.changeBag(3), INVALID);
        Check.due("nothing changed", x.binCoins(1), 1);
        Check.due("bagCount", x.bagCount(), 30);
        Check.due("bagCoins(29)", x.bagCoins(29), 1);
        Check.due("bagCoins(30)", x.bagCoins(30), INVALID);
        x.undo();
        Check.due("FULL was no change", x.binCoins(1), 0);
        Check.due("audit of the last", x.audit(29, 200), 199);
        Check.due("discrepancy", x.discrepancy(), 199 * 20);
    }

    private static void audit() {
        CoinSorter x = filled(4, 2);
        x.changeBag(0);
        x.changeBag(1);
        x.changeBag(2);
        Check.due("discrepancy without audits", x.discrepancy(), 0);
        Check.due("audit", x.audit(0, 3), 0);
        Check.due("discrepancy", x.discrepancy(), 0);
        Check.due("worstBag without a difference", x.worstBag(), ABSENT);
        Check.due("audit", x.audit(1, 0), -2);
        Check.due("discrepancy", x.discrepancy(), -40);
        Check.due("worstBag", x.worstBag(), 1);
        Check.due("audit", x.audit(2, 200), 199);
        Check.due("discrepancy", x.discrepancy(), 199 * 5 - 40);
        Check.due("worstBag", x.worstBag(), 2);
        Check.due("bagCoins is what the machine counted", x.bagCoins(2), 1);
        Check.due("a change", x.undo() > 0, true);
        Check.due("discrepancy", x.discrepancy(), -40);
        Check.due("audit after undo", x.audit(2, 1), 0);
    }

    private static void auditThrows() {
        CoinSorter x = filled(4, 2);
        x.changeBag(0);
        for (int bag : new int[] {-1, 1, 30, Integer.MIN_VALUE, Integer.MAX_VALUE}) {
            Check.thrown("audit of bag " + bag, IndexOutOfBoundsException.class, () -> x.audit(bag, 5));
            Check.thrown("the bag is checked first", IndexOutOfBoundsException.class, () -> x.audit(bag, -1));
        }
        for (int counted : new int[] {-1, 201, Integer.MIN_VALUE, Integer.MAX_VALUE}) {
            Check.thrown("audit with " + counted, IllegalArgumentException.class, () -> x.audit(0, counted));
        }
        int left = x.undo();
        Check.due("nothing changed, but the changeBag", x.bagCount(), 0);
        x.changeBag(0);
        Check.due("audit", x.audit(0, 3), 0);
        Check.thrown("audited before", IllegalStateException.class, () -> x.audit(0, 3));
        Check.thrown("counted is checked second", IllegalArgumentException.class, () -> x.audit(0, 201));
        Check.due("undo", x.undo(), left + 1);
        Check.due("audited no more", x.audit(0, 0), -3);
    }

    private static void smallestPart() {
        CoinSorter x = Check.machine("type 1 1500 50 1000 100;bin 0 3;");
        x.insert(1500, 1000);
        x.step();
        x.changeBag(0);
        x.audit(0, 2);
        Check.due("a part of 1", x.worstBag(), 0);
        Check.due("discrepancy", x.discrepancy(), 1);
        x.undo();
        x.audit(0, 0);
        Check.due("a part of -1", x.worstBag(), 0);
        Check.due("discrepancy", x.discrepancy(), -1);
    }

    private static void worstBag() {
        CoinSorter x = Check.machine(CONFIG);
        Check.due("no bag", x.worstBag(), ABSENT);
        for (int bag = 0; bag < 4; bag++) {
            x.insert(bag < 2 ? 1500 : 2000, 1000);
            x.step();
            x.changeBag(bag < 2 ? 0 : 1);
        }
        Check.due("no audit", x.worstBag(), ABSENT);
        x.audit(3, 0);
        Check.due("a part of -20", x.worstBag(), 3);
        x.audit(1, 5);
        Check.due("a part of 20: of equals the lowest", x.worstBag(), 1);
        x.audit(2, 2);
        Check.due("a part of 20 later", x.worstBag(), 1);
        x.audit(0, 6);
        Check.due("a part of 25", x.worstBag(), 0);
        Check.due("discrepancy", x.discrepancy(), -20 + 20 + 20 + 25);
    }
}
