/** What can be seen of an object, as a text; looking changes nothing. */
final class Sight {
    private Sight() {
    }

    /** Everything that has a number, up to one past each limit: some 200 calls of the 512 that an object has. */
    static String of(CoinSorter x) {
        StringBuilder sight = new StringBuilder(shortly(x));
        for (int i = 0; i <= 8; i++) {
            tell(sight, x.typeValue(i), x.binFor(i), x.binType(i), x.bagSize(i), x.binCoins(i));
        }
        for (int i = 0; i <= 20; i++) {
            tell(sight, x.loopType(i));
        }
        for (int i = 0; i <= 40; i++) {
            tell(sight, x.record(i));
        }
        for (int i = 0; i <= 30; i++) {
            tell(sight, x.bagType(i), x.bagCoins(i));
        }
        return sight.toString();
    }

    /** The single numbers alone: some 30 calls. */
    static String shortly(CoinSorter x) {
        StringBuilder sight = new StringBuilder();
        tell(sight, x.typeCount(), x.fakeCount(), x.binCount(), x.diameterOffset(), x.alloyOffset(), x.margin());
        tell(sight, x.hopperSize(), x.loopSize(), x.isJammed() ? 1 : 0, x.isStopped() ? 1 : 0, x.stepCount(), x.binValue());
        tell(sight, x.bagCount(), x.discrepancy(), x.worstBag(), x.sampleCount(), x.sampleCost(0), x.sampleCost(2000));
        tell(sight, x.bestMargin(), x.loopType(0), x.record(0), x.binCoins(0), x.payoutCoins(21));
        for (int outcome = CoinSorter.UNSURE; outcome <= CoinSorter.JAM; outcome++) {
            tell(sight, x.rejected(outcome));
        }
        return sight.toString();
    }

    private static void tell(StringBuilder sight, int... answers) {
        for (int answer : answers) {
            sight.append(answer).append(' ');
        }
    }
}
