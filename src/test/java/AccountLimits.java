/** The boundary cases of bags, audits, payouts and samples: promises 26 to 35 and 42 to 45. */
final class AccountLimits {
    private static final int INVALID = CoinSorter.INVALID, ABSENT = CoinSorter.ABSENT, FULL = CoinSorter.FULL;
    private static final int MIN = Integer.MIN_VALUE, MAX = Integer.MAX_VALUE;
    private static final int[] NO_AMOUNT = {0, -1, 5001, MIN, MAX};
    private static final int[] NO_COUNT = {-1, 201, MIN, MAX};
    private static final String TYPES = "type 5 1500 50 1000 100;type 20 2000 50 1000 100;";
    /** Scores at 2000 + d: 10 d and 10 (100 - d); the fake is far from both. */
    private static final String NEIGHBOURS = "type 1 2000 100 1000 100;type 2 2100 100 1000 100;fake 3000 100 1000 100;";

    private AccountLimits() {
    }

    static void test() {
        bags();
        payouts();
        samples();
        changeBagAndAudit();
        dispenseAndAddSample();
    }

    private static void bags() {
        Sentences.test(26, "Returns the number of sealed bags.", AccountLimits::bagCounts);
        Sentences.test(27, "Returns the type of a sealed bag; INVALID if there is no such bag.", AccountLimits::bagTypes);
        Sentences.test(28, "Returns the number of coins that the machine counted into a sealed bag;", AccountLimits::bagCoins);
        Sentences.test(28, "INVALID if there is no such bag.", AccountLimits::bagCoinsNoBag);
        Sentences.test(29, "Returns the sum, over all audited bags, of the audited number minus the number of coins that the machine"
            + " counted, times the value of the bag's type.", AccountLimits::discrepancies);
        Sentences.test(30, "Returns the audited bag for which the absolute value of its part of the discrepancy is greatest,",
            AccountLimits::greatestPart);
        Sentences.test(30, "of equals the lowest number;", AccountLimits::equalParts);
        Sentences.test(30, "ABSENT if there is no audited bag with a part other than 0.", AccountLimits::noPart);
    }

    private static void payouts() {
        Sentences.test(31, "1 to 5000", AccountLimits::payoutCoinsEnds);
        Sentences.test(31, "Returns the smallest number of coins whose values add up to the amount;", AccountLimits::smallestNumber);
        Sentences.test(31, "ABSENT if that is not possible;", AccountLimits::payoutCoinsAbsent);
        Sentences.test(31, "INVALID if amount is out of range.", AccountLimits::payoutCoinsRefuses);
        Sentences.test(32, "the payout with the fewest coins; of several, the one with the most coins of type 0, then with the most of"
            + " type 1, and so on.", AccountLimits::mostOfTheFirst);
        Sentences.test(32, "1 to 5000", AccountLimits::payoutOfEnds);
        Sentences.test(32, "ABSENT if the amount cannot be paid;", AccountLimits::payoutOfAbsent);
        Sentences.test(32, "INVALID if amount is out of range or there is no such type (checked first).", AccountLimits::payoutOfRefuses);
    }

    private static void samples() {
        Sentences.test(33, "Returns the number of samples.", AccountLimits::sampleCounts);
        Sentences.test(34, "Returns the cost of all samples, if the margin were another one; the offsets are those of now.",
            AccountLimits::anotherMargin);
        Sentences.test(34, "The cost of a sample with the label of a type is 0 if its verdict is this type, 5 if it is another type, and"
            + " 1 if it is no type.", AccountLimits::costsOfATypesLabel);
        Sentences.test(34, "The cost of a sample with the label -1 is 10 if its verdict is a type, otherwise 0.", AccountLimits::costsOfNoLabel);
        Sentences.test(34, "0 to 2000", AccountLimits::sampleCostEnds);
        Sentences.test(34, "INVALID if margin is out of range.", AccountLimits::sampleCostRefuses);
        Sentences.test(35, "Returns the margin from 0 to 2000 with the least cost of all samples;", AccountLimits::bestMargins);
        Sentences.test(35, "of equals the lowest.", AccountLimits::lowestMargin);
    }

    private static void changeBagAndAudit() {
        Sentences.test(42, "Seals the bag of a bin, full or not, and puts an empty bag in its place.", AccountLimits::fullOrNot);
        Sentences.test(42, "Returns the number of the sealed bag, from 0 on in the order in which bags are sealed;", AccountLimits::bagNumbers);
        Sentences.test(42, "INVALID if there is no such bin (checked first);", AccountLimits::changeBagNoBin);
        Sentences.test(42, "ABSENT if the bag is empty (checked second);", AccountLimits::changeBagEmpty);
        Sentences.test(42, "FULL if there are 30 sealed bags.", AccountLimits::changeBagFull);
        Sentences.test(43, "the audited number of coins, 0 to 200", AccountLimits::countedEnds);
        Sentences.test(43, "Returns counted minus the number of coins that the machine counted.", AccountLimits::countedMinus);
        Sentences.test(43, "Throws IndexOutOfBoundsException if there is no such bag (checked first)", AccountLimits::auditNoBag);
        Sentences.test(43, "Throws IllegalArgumentException if counted is out of range (checked second)", AccountLimits::auditOutOfRange);
        Sentences.test(43, "Throws IllegalStateException if the bag was audited before", AccountLimits::auditedBefore);
    }

    private static void dispenseAndAddSample() {
        Sentences.test(44, "the coins of the payout that payoutOf describes leave the bags of the bins.", AccountLimits::coinsLeave);
        Sentences.test(44, "For each type they are taken from the bins of this type in the order of their numbers, from each as many as"
            + " possible.", AccountLimits::inOrderOfBins);
        Sentences.test(44, "1 to 5000", AccountLimits::dispenseEnds);
        Sentences.test(44, "Returns the number of coins;", AccountLimits::numberOfCoins);
        Sentences.test(44, "INVALID if amount is out of range;", AccountLimits::dispenseRefuses);
        Sentences.test(44, "ABSENT, with nothing changed, if the amount cannot be paid.", AccountLimits::dispenseAbsent);
        Sentences.test(45, "measured diameter, 1 to 4000", AccountLimits::sampleDiameters);
        Sentences.test(45, "measured alloy, 0 to 9999", AccountLimits::sampleAlloys);
        Sentences.test(45, "the number of the type that it is, or -1 for no genuine coin", AccountLimits::labels);
        Sentences.test(45, "INVALID if an argument is out of range or there is no such type (checked first);", AccountLimits::addSampleRefuses);
        Sentences.test(45, "FULL if there are 40 samples.", AccountLimits::addSampleFull);
    }

    // ---- what the tests are made of

    private interface Call {
        int answer(CoinSorter x);
    }

    /** A busy machine answers so, and is as it was. */
    private static void refused(String name, Call call, int due) {
        Twins.same(name, Machines::busy, x -> Check.due(name, call.answer(x), due));
    }

    /** Puts so many coins of type 0 (1500) or 1 (2000) into its only bin, and seals the bag. */
    private static int seal(CoinSorter x, int type, int coins) {
        Check.insert(x, coins, type == 0 ? 1500 : 2000, 1000);
        x.run(100);
        return x.changeBag(type);
    }

    private static CoinSorter twoBins() {
        return Check.machine(TYPES + "bin 0 100;bin 1 100;");
    }

    /** A machine with a type and a bin for each value, and so many coins in each bin. */
    private static CoinSorter stocked(int[] values, int... counts) {
        StringBuilder text = new StringBuilder();
        for (int type = 0; type < values.length; type++) {
            text.append("type ").append(values[type]).append(' ').append(1000 + 100 * type).append(" 9 5 9;");
            text.append("bin ").append(type).append(" 100;");
        }
        CoinSorter x = Check.machine(text.toString());
        for (int type = 0; type < values.length; type++) {
            for (int left = counts[type]; left > 0; left -= 50) {
                Check.insert(x, Math.min(50, left), 1000 + 100 * type, 5);
                x.run(100);
            }
        }
        return x;
    }

    private static void payout(CoinSorter x, int amount, int... counts) {
        int sum = 0;
        for (int type = 0; type < counts.length; type++) {
            Check.due("payoutOf " + amount + ", " + type, x.payoutOf(amount, type), counts[type]);
            sum += counts[type];
        }
        Check.due("payoutCoins " + amount, x.payoutCoins(amount), sum);
    }

    // ---- promises 26 to 30

    private static void bagCounts() {
        Check.due("a new object", new CoinSorter().bagCount(), 0);
        CoinSorter x = twoBins();
        for (int bag = 0; bag < 30; bag++) {
            Check.due("bagCount", x.bagCount(), bag);
            seal(x, bag % 2, 1);
        }
        Check.due("the most", x.bagCount(), 30);
        Check.due("one more", seal(x, 0, 1), FULL);
        Check.due("still the most", x.bagCount(), 30);
        Check.due("after parse", afterParse(x).bagCount(), 0);
    }

    private static CoinSorter afterParse(CoinSorter x) {
        Check.load(x, TYPES);
        return x;
    }

    private static void bagTypes() {
        CoinSorter x = twoBins();
        Check.due("no bag yet", x.bagType(0), INVALID);
        for (int bag = 0; bag < 30; bag++) {
            seal(x, bag % 3 == 0 ? 1 : 0, 1);
            Check.due("the latest", x.bagType(bag), bag % 3 == 0 ? 1 : 0);
            Check.due("after the latest", x.bagType(bag + 1), INVALID);
            Check.due("the first", x.bagType(0), 1);
        }
        for (int wrong : new int[] {-1, 30, 31, MIN, MAX}) {
            Check.due("bagType " + wrong, x.bagType(wrong), INVALID);
        }
    }

    private static void bagCoins() {
        CoinSorter x = twoBins();
        Check.due("one coin", seal(x, 0, 1), 0);
        Check.insert(x, 50, 1500, 1000);
        x.run(50);
        Check.due("100 coins", seal(x, 0, 50), 1);
        Check.due("bagCoins(0)", x.bagCoins(0), 1);
        Check.due("bagCoins(1)", x.bagCoins(1), 100);
        x.audit(0, 77);
        Check.due("an audit does not change it", x.bagCoins(0), 1);
        seal(x, 1, 3);
        x.undo();
        Check.due("undone", x.bagCoins(2), INVALID);
    }

    private static void bagCoinsNoBag() {
        CoinSorter x = twoBins();
        Check.due("no bag yet", x.bagCoins(0), INVALID);
        for (int bag = 0; bag < 30; bag++) {
            seal(x, 0, 1 + bag % 2);
            Check.due("the latest", x.bagCoins(bag), 1 + bag % 2);
            Check.due("after the latest", x.bagCoins(bag + 1), INVALID);
        }
        for (int wrong : new int[] {-1, 30, 31, MIN, MAX}) {
            Check.due("bagCoins " + wrong, x.bagCoins(wrong), INVALID);
        }
    }

    private static void discrepancies() {
        Check.due("a new object", new CoinSorter().discrepancy(), 0);
        CoinSorter x = twoBins();
        seal(x, 0, 3);
        seal(x, 1, 4);
        seal(x, 1, 5);
        Check.due("no audit", x.discrepancy(), 0);
        x.audit(1, 0);
        Check.due("4 missing of 20", x.discrepancy(), -80);
        x.audit(0, 200);
        Check.due("197 too many of 5", x.discrepancy(), 197 * 5 - 80);
        x.audit(2, 5);
        Check.due("as counted", x.discrepancy(), 197 * 5 - 80);
        CoinSorter y = Check.machine("type 500 1500 50 1000 100;bin 0 100;");
        for (int bag = 0; bag < 30; bag++) {
            seal(y, 0, 1);
            y.audit(bag, 200);
        }
        Check.due("the greatest of 30 bags", y.discrepancy(), 30 * 199 * 500);
        CoinSorter z = Check.machine("type 500 1500 50 1000 100;bin 0 100;");
        Check.insert(z, 50, 1500, 1000);
        z.run(50);
        seal(z, 0, 50);
        z.audit(0, 0);
        Check.due("the lowest of a bag", z.discrepancy(), -50000);
    }

    private static void greatestPart() {
        CoinSorter x = twoBins();
        seal(x, 0, 3);
        seal(x, 1, 1);
        seal(x, 0, 9);
        x.audit(0, 6);
        Check.due("15", x.worstBag(), 0);
        x.audit(1, 0);
        Check.due("15 and -20", x.worstBag(), 1);
        x.audit(2, 4);
        Check.due("15, -20 and -25", x.worstBag(), 2);
        x.undo();
        x.audit(2, 200);
        Check.due("15, -20 and 955", x.worstBag(), 2);
        CoinSorter y = twoBins();
        for (int bag = 0; bag < 30; bag++) {
            seal(y, 0, 1);
        }
        y.audit(29, 2);
        Check.due("the last of 30", y.worstBag(), 29);
    }

    private static void equalParts() {
        CoinSorter x = twoBins();
        seal(x, 0, 4);
        seal(x, 1, 1);
        seal(x, 0, 4);
        x.audit(2, 8);
        Check.due("20 of the last", x.worstBag(), 2);
        x.audit(1, 0);
        Check.due("-20 of the one before", x.worstBag(), 1);
        x.audit(0, 0);
        Check.due("-20 of the first", x.worstBag(), 0);
    }

    private static void noPart() {
        Check.due("no bag", new CoinSorter().worstBag(), ABSENT);
        CoinSorter x = twoBins();
        seal(x, 0, 4);
        seal(x, 1, 1);
        Check.due("no audit", x.worstBag(), ABSENT);
        x.audit(0, 4);
        Check.due("a part of 0", x.worstBag(), ABSENT);
        x.audit(1, 1);
        Check.due("parts of 0", x.worstBag(), ABSENT);
        x.undo();
        x.audit(1, 2);
        Check.due("a part of 20", x.worstBag(), 1);
        CoinSorter y = Check.machine("type 1 1500 50 1000 100;bin 0 9;");
        seal(y, 0, 1);
        y.audit(0, 0);
        Check.due("a part of -1", y.worstBag(), 0);
    }

    // ---- promises 31 and 32

    private static void payoutCoinsEnds() {
        CoinSorter x = stocked(new int[] {1, 500}, 1, 10);
        Check.due("the least", x.payoutCoins(1), 1);
        Check.due("the greatest", x.payoutCoins(5000), 10);
        Check.due("one less", x.payoutCoins(4501), 10);
        Check.due("below", x.payoutCoins(0), INVALID);
        Check.due("above, although it is there", x.payoutCoins(5001), INVALID);
    }

    private static void smallestNumber() {
        CoinSorter x = stocked(new int[] {1, 5, 12}, 6, 3, 2);
        Check.due("15: three of 5, not 12 and three of 1", x.payoutCoins(15), 3);
        Check.due("24", x.payoutCoins(24), 2);
        Check.due("all coins", x.payoutCoins(45), 11);
        Check.due("all but one", x.payoutCoins(44), 10);
        CoinSorter y = stocked(new int[] {1, 5, 12}, 100, 1, 0);
        Check.due("no coin of 12 is there", y.payoutCoins(15), 11);
        Check.due("all", y.payoutCoins(105), 101);
        CoinSorter z = Check.machine(TYPES + "bin 0 2;bin 1 1;bin 0 2;");
        Check.insert(z, 4, 1500, 1000);
        Check.due("coins in the hopper do not count", z.payoutCoins(5), ABSENT);
        z.run(4);
        Check.due("both bins of a type", z.payoutCoins(20), 4);
        z.changeBag(0);
        Check.due("sealed bags do not count", z.payoutCoins(20), ABSENT);
    }

    private static void payoutCoinsAbsent() {
        Check.due("no types", new CoinSorter().payoutCoins(1), ABSENT);
        Check.due("no bins", Check.machine(TYPES).payoutCoins(5), ABSENT);
        Check.due("empty bins", twoBins().payoutCoins(5), ABSENT);
        CoinSorter x = stocked(new int[] {3, 5}, 4, 2);
        for (int amount : new int[] {1, 2, 4, 7, 15, 18, 20, 21, 23, 5000}) {
            Check.due("payoutCoins " + amount, x.payoutCoins(amount), ABSENT);
        }
        Check.due("all", x.payoutCoins(22), 6);
        Check.due("too large a coin", stocked(new int[] {500}, 3).payoutCoins(499), ABSENT);
    }

    private static void payoutCoinsRefuses() {
        for (int amount : NO_AMOUNT) {
            refused("payoutCoins " + amount, x -> x.payoutCoins(amount), INVALID);
            Check.due("also without types", new CoinSorter().payoutCoins(amount), INVALID);
        }
    }

    private static void mostOfTheFirst() {
        payout(stocked(new int[] {2, 2}, 3, 3), 8, 3, 1);
        payout(stocked(new int[] {1, 2, 3}, 5, 5, 5), 4, 1, 0, 1);
        payout(stocked(new int[] {2, 1, 3}, 5, 5, 5), 4, 2, 0, 0);
        payout(stocked(new int[] {9, 3, 1, 2}, 0, 5, 5, 5), 4, 0, 1, 1, 0);
        payout(stocked(new int[] {9, 2, 3, 1}, 1, 5, 5, 5), 13, 1, 2, 0, 0);
        payout(stocked(new int[] {9, 2, 3, 1}, 1, 1, 5, 5), 13, 1, 0, 1, 1);
        payout(stocked(new int[] {1, 1, 1, 1, 1, 1, 1, 1}, 0, 2, 0, 2, 0, 2, 0, 2), 7, 0, 2, 0, 2, 0, 2, 0, 1);
        payout(stocked(new int[] {10, 1, 5}, 1, 9, 2), 10, 1, 0, 0);
    }

    private static void payoutOfEnds() {
        CoinSorter x = stocked(new int[] {1, 500}, 1, 10);
        payout(x, 1, 1, 0);
        payout(x, 5000, 0, 10);
        Check.due("below", x.payoutOf(0, 0), INVALID);
        Check.due("above, although it is there", x.payoutOf(5001, 0), INVALID);
    }

    private static void payoutOfAbsent() {
        CoinSorter x = stocked(new int[] {3, 5}, 4, 2);
        for (int amount : new int[] {1, 7, 21, 23, 5000}) {
            Check.due("payoutOf " + amount + ", 0", x.payoutOf(amount, 0), ABSENT);
            Check.due("payoutOf " + amount + ", 1", x.payoutOf(amount, 1), ABSENT);
        }
        Check.due("a type that takes no part", x.payoutOf(3, 1), 0);
        Check.due("a type without a bin", Check.machine(TYPES).payoutOf(5, 0), ABSENT);
    }

    private static void payoutOfRefuses() {
        for (int amount : NO_AMOUNT) {
            refused("payoutOf " + amount, x -> x.payoutOf(amount, 0), INVALID);
            Check.due("both are wrong", Machines.busy().payoutOf(amount, 4), INVALID);
        }
        for (int type : new int[] {-1, 4, 8, MIN, MAX}) {
            refused("payoutOf type " + type, x -> x.payoutOf(1, type), INVALID);
            Check.due("first, if it cannot be paid", Machines.busy().payoutOf(4999, type), INVALID);
        }
        Check.due("no types", new CoinSorter().payoutOf(1, 0), INVALID);
        Check.due("the last type", Machines.busy().payoutOf(1, 3), 0);
    }

    // ---- promises 33 to 35

    private static void sampleCounts() {
        CoinSorter x = Check.machine(NEIGHBOURS);
        for (int sample = 0; sample < 40; sample++) {
            Check.due("sampleCount", x.sampleCount(), sample);
            x.addSample(2000, 1000, 0);
        }
        Check.due("the most", x.sampleCount(), 40);
        x.addSample(2000, 1000, 0);
        Check.due("still the most", x.sampleCount(), 40);
        x.undo();
        Check.due("undone", x.sampleCount(), 39);
        Check.due("after parse", afterParse(x).sampleCount(), 0);
    }

    private static void anotherMargin() {
        CoinSorter x = Check.machine(NEIGHBOURS + "margin 500;");
        Check.due("no samples", x.sampleCost(0), 0);
        x.addSample(2045, 1000, 0);
        Check.due("no less than the margin", x.sampleCost(100), 0);
        Check.due("less than the margin", x.sampleCost(101), 1);
        Check.due("the margin of now", x.sampleCost(500), 1);
        Check.due("it stays", x.margin(), 500);
        x.calibrate(0, 2045, 1000);
        Check.due("the offsets of now", x.sampleCost(1000), 0);
        Check.due("the offsets of now", x.sampleCost(1001), 1);
        for (int i = 0; i < 39; i++) {
            x.addSample(2045, 1000, -1);
        }
        Check.due("all 40", x.sampleCost(0), 390);
        Twins.same("sampleCost", Machines::busy, y -> y.sampleCost(2000));
    }

    private static void cost(int diameter, int label, int margin, int cost) {
        CoinSorter x = Check.machine(NEIGHBOURS);
        x.addSample(diameter, 1000, label);
        Check.due("cost of " + diameter + " as " + label + " at " + margin, x.sampleCost(margin), cost);
    }

    private static void costsOfATypesLabel() {
        cost(2010, 0, 100, 0);
        cost(2090, 1, 100, 0);
        cost(2010, 1, 100, 5);
        cost(2090, 0, 100, 5);
        cost(2050, 0, 100, 1);
        cost(2050, 1, 100, 1);
        cost(3000, 0, 100, 1);
        cost(500, 1, 100, 1);
        cost(2050, 0, 0, 0);
        cost(2050, 1, 0, 5);
    }

    private static void costsOfNoLabel() {
        cost(2010, -1, 100, 10);
        cost(2090, -1, 100, 10);
        cost(2050, -1, 100, 0);
        cost(2050, -1, 0, 10);
        cost(3000, -1, 100, 0);
        cost(500, -1, 100, 0);
    }

    private static void sampleCostEnds() {
        CoinSorter x = Check.machine("type 1 2000 100 1000 100;type 2 2100 100 1100 100;");
        x.addSample(2000, 1000, -1);
        Check.due("the least", x.sampleCost(0), 10);
        Check.due("the greatest", x.sampleCost(2000), 10);
        x.addSample(2001, 1000, -1);
        Check.due("the greatest", x.sampleCost(2000), 10);
        Check.due("below", x.sampleCost(-1), INVALID);
        Check.due("above", x.sampleCost(2001), INVALID);
    }

    private static void sampleCostRefuses() {
        for (int margin : new int[] {-1, 2001, MIN, MAX}) {
            refused("sampleCost " + margin, x -> x.sampleCost(margin), INVALID);
            Check.due("without samples", new CoinSorter().sampleCost(margin), INVALID);
        }
    }

    private static void bestMargins() {
        Check.due("no samples", new CoinSorter().bestMargin(), 0);
        CoinSorter x = Check.machine(NEIGHBOURS);
        x.addSample(2050, 1000, -1);
        Check.due("just above a difference of 0", x.bestMargin(), 1);
        x.addSample(2000, 1000, -1);
        Check.due("just above a difference of 1000", x.bestMargin(), 1001);
        Check.due("the margin stays", x.margin(), 100);
        CoinSorter y = Check.machine("type 1 2000 200 1000 500;type 2 2200 200 1499 500;");
        y.addSample(2000, 1000, -1);
        Check.due("just above a difference of 1998", y.bestMargin(), 1999);
        CoinSorter z = Check.machine("type 1 2000 200 1000 500;type 2 2200 200 1500 500;");
        z.addSample(2000, 1000, -1);
        Check.due("no margin is above a difference of 2000", z.bestMargin(), 0);
        Twins.same("bestMargin", Machines::busy, CoinSorter::bestMargin);
        leastByOne();
        neighbours();
    }

    /** A wrong coin that costs 4 less above its difference, against so many genuine ones that cost 1 more. */
    private static void leastByOne() {
        CoinSorter x = Check.machine(NEIGHBOURS);
        x.addSample(2040, 1000, 1);
        for (int genuine = 1; genuine <= 6; genuine++) {
            x.addSample(2040, 1000, 0);
            Check.due(genuine + " genuine coins", x.bestMargin(), genuine < 4 ? 201 : 0);
        }
    }

    /** Differences of 394 and 395: a margin of 395 is above the first alone. */
    private static void neighbours() {
        CoinSorter x = Check.machine("type 1 2000 100 1000 70;type 2 2100 100 1000 100;");
        x.addSample(2029, 1006, -1);
        for (int genuine = 0; genuine < 10; genuine++) {
            x.addSample(2030, 1001, 0);
        }
        Check.due("above the first alone", x.bestMargin(), 395);
        Check.due("its cost", x.sampleCost(395), 0);
        Check.due("one more", x.sampleCost(396), 10);
        Check.due("one less", x.sampleCost(394), 10);
    }

    private static void lowestMargin() {
        CoinSorter x = Check.machine(NEIGHBOURS);
        x.addSample(2010, 1000, 0);
        Check.due("the same cost up to its difference", x.bestMargin(), 0);
        x.addSample(500, 1000, 0);
        Check.due("a cost of 1 everywhere", x.bestMargin(), 0);
        x.addSample(2045, 1000, 1);
        Check.due("less from 101 to 800", x.bestMargin(), 101);
        // 5 + 5 up to 100, 5 + 1 up to 400, then 1 + 1 + 4
        CoinSorter y = Check.machine(NEIGHBOURS);
        y.addSample(2030, 1000, 1);
        y.addSample(2045, 1000, 1);
        for (int i = 0; i < 4; i++) {
            y.addSample(2030, 1000, 0);
        }
        Check.due("a cost of 6 at 101 and at 401", y.sampleCost(101) - y.sampleCost(401), 0);
        Check.due("the lower of them", y.bestMargin(), 101);
    }

    // ---- promises 42 and 43

    private static void fullOrNot() {
        CoinSorter x = Check.machine(TYPES + "bin 0 2;bin 1 3;");
        Check.insert(x, 2, 1500, 1000);
        x.insert(2000, 1000);
        x.run(3);
        Check.due("a full bag", x.changeBag(0), 0);
        Check.due("a bag that is not full", x.changeBag(1), 1);
        Check.due("an empty one in its place", x.binCoins(0), 0);
        Check.due("an empty one in its place", x.binCoins(1), 0);
        Check.due("of the same size", x.bagSize(0), 2);
        Check.due("bagCoins(0)", x.bagCoins(0), 2);
        Check.due("bagCoins(1)", x.bagCoins(1), 1);
        Check.due("while jammed", Machines.jammed().changeBag(0), 2);
    }

    private static void bagNumbers() {
        CoinSorter x = twoBins();
        for (int bag = 0; bag < 30; bag++) {
            Check.due("changeBag", seal(x, bag * 7 % 3 % 2, 1), bag);
        }
        x.undo();
        Check.due("the number is free again", x.bagCount(), 29);
        Check.due("changeBag", x.changeBag(29 * 7 % 3 % 2), 29);
    }

    private static void changeBagNoBin() {
        for (int bin : new int[] {-1, 3, 8, MIN, MAX}) {
            refused("changeBag " + bin, x -> x.changeBag(bin), INVALID);
            Check.due("first, with 30 bags", Machines.fullBags().changeBag(bin), INVALID);
        }
        Check.due("without bins", new CoinSorter().changeBag(0), INVALID);
    }

    private static void changeBagEmpty() {
        Check.due("a new bag", twoBins().changeBag(0), ABSENT);
        refused("changeBag of an empty bag", x -> x.changeBag(2), ABSENT);
        CoinSorter x = Machines.fullBags();
        Check.due("second, with 30 bags", x.changeBag(2), ABSENT);
        Twins.same("with 30 bags", Machines::fullBags, y -> Check.due("changeBag", y.changeBag(2), ABSENT));
        CoinSorter z = twoBins();
        z.insert(1500, 1000);
        z.step();
        z.dispense(5);
        Check.due("emptied by dispense", z.changeBag(0), ABSENT);
    }

    private static void changeBagFull() {
        CoinSorter x = twoBins();
        for (int bag = 0; bag < 29; bag++) {
            seal(x, 0, 1);
        }
        Check.due("the 30th", seal(x, 0, 1), 29);
        Check.due("the 31st", seal(x, 0, 1), FULL);
        Check.due("its coin stays", x.binCoins(0), 1);
        Twins.same("a 31st bag", Machines::fullBags, y -> Check.due("changeBag", y.changeBag(0), FULL));
    }

    private static void countedEnds() {
        CoinSorter x = twoBins();
        seal(x, 0, 1);
        seal(x, 0, 1);
        Check.thrown("below", IllegalArgumentException.class, () -> x.audit(0, -1));
        Check.thrown("above", IllegalArgumentException.class, () -> x.audit(1, 201));
        Check.due("the least", x.audit(0, 0), -1);
        Check.due("the greatest", x.audit(1, 200), 199);
    }

    private static void countedMinus() {
        CoinSorter x = Check.machine(TYPES + "bin 0 100;");
        Check.insert(x, 50, 1500, 1000);
        x.run(50);
        seal(x, 0, 50);
        seal(x, 0, 7);
        Check.due("the lowest", x.audit(0, 0), -100);
        Check.due("as counted", x.audit(1, 7), 0);
        x.undo();
        Check.due("one more", x.audit(1, 8), 1);
        x.undo();
        Check.due("one less", x.audit(1, 6), -1);
    }

    private static void auditNoBag() {
        for (int bag : new int[] {-1, 2, 30, MIN, MAX}) {
            auditLeaves(bag, 5, IndexOutOfBoundsException.class);
            auditLeaves(bag, 201, IndexOutOfBoundsException.class);
        }
        CoinSorter x = Machines.fullBags();
        Check.thrown("after 30 bags", IndexOutOfBoundsException.class, () -> x.audit(30, 5));
        Check.due("the 30th", x.audit(29, 1), 0);
        CoinSorter y = new CoinSorter();
        Check.thrown("without bags", IndexOutOfBoundsException.class, () -> y.audit(0, 0));
        CoinSorter z = twoBins();
        seal(z, 0, 1);
        z.undo();
        Check.thrown("a bag whose sealing is undone", IndexOutOfBoundsException.class, () -> z.audit(0, 0));
    }

    /** Bag 0 of the busy machine is audited, bag 1 is not, and there is no other. */
    private static void auditLeaves(int bag, int counted, Class<? extends RuntimeException> due) {
        String name = "audit of " + bag + " with " + counted;
        Twins.same(name, Machines::busy, x -> Check.thrown(name, due, () -> x.audit(bag, counted)));
    }

    private static void auditOutOfRange() {
        for (int counted : NO_COUNT) {
            auditLeaves(1, counted, IllegalArgumentException.class);
            auditLeaves(0, counted, IllegalArgumentException.class);
        }
    }

    private static void auditedBefore() {
        auditLeaves(0, 5, IllegalStateException.class);
        auditLeaves(0, 0, IllegalStateException.class);
        CoinSorter x = twoBins();
        seal(x, 0, 1);
        seal(x, 0, 1);
        x.audit(0, 0);
        Check.thrown("audited with 0", IllegalStateException.class, () -> x.audit(0, 200));
        Check.due("another bag", x.audit(1, 1), 0);
        Check.thrown("audited as counted", IllegalStateException.class, () -> x.audit(1, 1));
        x.undo();
        Check.due("undone", x.audit(1, 3), 2);
    }

    // ---- promises 44 and 45

    private static void coinsLeave() {
        CoinSorter x = stocked(new int[] {2, 2, 5}, 3, 3, 2);
        Check.due("dispense", x.dispense(13), 5);
        Check.due("binCoins(0)", x.binCoins(0), 0);
        Check.due("binCoins(1)", x.binCoins(1), 2);
        Check.due("binCoins(2)", x.binCoins(2), 1);
        Check.due("binValue", x.binValue(), 9);
        Check.due("all that is left", x.dispense(9), 3);
        Check.due("binValue", x.binValue(), 0);
        CoinSorter y = stocked(new int[] {500}, 10);
        Check.due("while the hopper is empty", y.dispense(5000), 10);
        Check.due("while jammed", Machines.jammed().dispense(21), 2);
    }

    private static void inOrderOfBins() {
        CoinSorter x = Check.machine(TYPES + "bin 0 4;bin 1 9;bin 0 2;bin 0 3;");
        Check.insert(x, 8, 1500, 1000);
        Check.insert(x, 2, 2000, 1000);
        x.run(100);
        // three, two and three coins of 5; two of 20
        Check.due("dispense", x.dispense(60), 6);
        Check.due("the first gives all", x.binCoins(0), 0);
        Check.due("the other type", x.binCoins(1), 0);
        Check.due("the next gives the rest", x.binCoins(2), 1);
        Check.due("the last gives none", x.binCoins(3), 3);
        Check.due("dispense", x.dispense(10), 2);
        Check.due("an empty bin is passed over", x.binCoins(2), 0);
        Check.due("the last gives one", x.binCoins(3), 2);
    }

    private static void dispenseEnds() {
        CoinSorter x = stocked(new int[] {1, 500}, 2, 10);
        Check.due("below", x.dispense(0), INVALID);
        Check.due("above, although it is there", x.dispense(5001), INVALID);
        Check.due("the least", x.dispense(1), 1);
        Check.due("the greatest", x.dispense(5000), 10);
        Check.due("one coin is left", x.binValue(), 1);
    }

    private static void numberOfCoins() {
        CoinSorter x = stocked(new int[] {1, 5, 12}, 6, 3, 2);
        Check.due("the fewest", x.dispense(15), 3);
        Check.due("what is left is paid with", x.dispense(15), 4);
        Check.due("the last", x.dispense(15), 4);
        Check.due("nothing is left", x.binValue(), 0);
    }

    private static void dispenseRefuses() {
        for (int amount : NO_AMOUNT) {
            refused("dispense " + amount, x -> x.dispense(amount), INVALID);
        }
    }

    private static void dispenseAbsent() {
        for (int amount : new int[] {2, 22, 5000}) {
            refused("dispense " + amount, x -> x.dispense(amount), ABSENT);
        }
        Check.due("no types", new CoinSorter().dispense(1), ABSENT);
        Check.due("empty bins", twoBins().dispense(5), ABSENT);
        CoinSorter x = stocked(new int[] {3, 5}, 4, 2);
        Check.due("no such sum", x.dispense(7), ABSENT);
        Check.due("more than all", x.dispense(23), ABSENT);
        Check.due("binValue", x.binValue(), 22);
    }

    private static void sampleDiameters() {
        CoinSorter x = Check.machine("type 1 4000 1 1000 1;");
        Check.due("the least", x.addSample(1, 1000, -1), 1);
        Check.due("the greatest", x.addSample(4000, 1000, -1), 2);
        Check.due("below", x.addSample(0, 1000, -1), INVALID);
        Check.due("above", x.addSample(4001, 1000, -1), INVALID);
        Check.due("they are kept", x.sampleCost(0), 10);
        x.calibrate(0, 1, 1000);
        Check.due("they are kept", x.sampleCost(0), 10);
        x.calibrate(0, 2, 1000);
        Check.due("the least is one off", x.sampleCost(0), 10);
        x.calibrate(0, 3, 1000);
        Check.due("the least is two off", x.sampleCost(0), 0);
    }

    private static void sampleAlloys() {
        CoinSorter x = Check.machine("type 1 2000 1 0 1;type 1 2000 1 9999 1;");
        Check.due("the least", x.addSample(1999, 0, 0), 1);
        Check.due("the greatest", x.addSample(2001, 9999, 1), 2);
        Check.due("below", x.addSample(2000, -1, 0), INVALID);
        Check.due("above", x.addSample(2000, 10000, 1), INVALID);
        Check.due("they are kept", x.sampleCost(0), 0);
    }

    private static void labels() {
        for (int types = 0; types <= 8; types++) {
            CoinSorter x = Check.machine("type 1 2000 50 1000 100;".repeat(types));
            Check.due("no genuine coin", x.addSample(2000, 1000, -1), 1);
            Check.due("the last type", x.addSample(2000, 1000, types - 1), 2);
            Check.due("no type", x.addSample(2000, 1000, types), INVALID);
            Check.due("below", x.addSample(2000, 1000, -2), INVALID);
        }
    }

    private static void addSampleRefuses() {
        int[][] wrong = {{0, 1000, 0}, {4001, 1000, 0}, {-1, 1000, -1}, {MIN, 1000, 0}, {MAX, 1000, 0}, {1500, -1, 0},
            {1500, 10000, -1}, {1500, MIN, 0}, {1500, MAX, 0}, {1500, 1000, 4}, {1500, 1000, -2}, {1500, 1000, 8},
            {1500, 1000, 23}, {1500, 1000, MIN}, {1500, 1000, MAX}};
        for (int[] w : wrong) {
            refused("addSample " + w[0] + ", " + w[1] + ", " + w[2], x -> x.addSample(w[0], w[1], w[2]), INVALID);
            Check.due("first, with 40 samples", Machines.fullSamples().addSample(w[0], w[1], w[2]), INVALID);
        }
    }

    private static void addSampleFull() {
        CoinSorter x = new CoinSorter();
        for (int sample = 1; sample <= 40; sample++) {
            Check.due("addSample", x.addSample(1, 0, -1), sample);
        }
        Check.due("the 41st", x.addSample(1, 0, -1), FULL);
        x.undo();
        Check.due("after undo", x.addSample(1, 0, -1), 40);
        Twins.same("a 41st sample", Machines::fullSamples, y -> Check.due("addSample", y.addSample(1500, 1000, 0), FULL));
    }
}
