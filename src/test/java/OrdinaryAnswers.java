import java.lang.reflect.Method;
import java.lang.reflect.Modifier;

/** The sentences of the document that name no boundary case, a test for each: what the calls do with ordinary inputs. */
final class OrdinaryAnswers {
    private static final int INVALID = CoinSorter.INVALID, ABSENT = CoinSorter.ABSENT;
    private static final int LOOP = CoinSorter.LOOP, UNSURE = CoinSorter.UNSURE, COUNTERFEIT = CoinSorter.COUNTERFEIT;
    private static final int UNKNOWN = CoinSorter.UNKNOWN, JAM = CoinSorter.JAM;
    /** Types 0, 1 and 2 at the diameters 1500, 2000 and 2500. */
    private static final String TYPES = "type 1 1500 50 1000 100;type 20 2000 50 1000 100;type 300 2500 50 1000 100;";
    /** Types 0 and 1 overlap from 1600 to 1700; bins of types 0, 1 and 2 have room for all coins of a test. */
    private static final String ROOMY = "type 1 1600 100 1000 100;type 2 1700 100 1000 100;type 5 2500 50 1000 100;"
        + "fake 2540 50 1000 100;bin 2 90;bin 0 95;bin 1 100;gate 3000;";

    private OrdinaryAnswers() {
    }

    static void test() {
        whatItIs();
        description();
        configuration();
        classification();
        machine();
        accounts();
        changes();
    }

    private static void says(String words, Runnable body) {
        Sentences.test(Sentences.DESCRIPTION, words, body);
    }

    private static void whatItIs() {
        Sentences.test(Sentences.WHAT_IT_IS, "A controller for a coin sorting machine: coins are recognized by a diameter sensor and a"
            + " coil (alloy) sensor, sorted into bins whose bags hold a set number of coins, recirculated while a bag is full, and"
            + " rejected if they are unsure, counterfeit or unknown.", OrdinaryAnswers::sorted);
        Sentences.test(Sentences.WHAT_IT_IS, "It also keeps account of sealed bags and their audits, pays out amounts with the fewest"
            + " coins, and tunes the margin of the classifier on labelled samples.", OrdinaryAnswers::accounted);
        Sentences.test(Sentences.WHAT_IT_IS, "An object is used for at most 512 calls after it has been made; what later calls answer is"
            + " free.", OrdinaryAnswers::all512Calls);
    }

    private static void description() {
        says("The deviation of a coin from a type (or a fake) at a sensor is 1000 times the absolute difference of the corrected"
            + " measurement and the nominal value of the type at this sensor,", OrdinaryAnswers::deviations);
        says("and bins. Each bin takes coins of one type,", OrdinaryAnswers::coinsOfOneType);
        says("In a step, the machine moves one coin:", OrdinaryAnswers::movesOneCoin);
        says("Otherwise it is classified.", OrdinaryAnswers::isClassified);
        says("Otherwise it moves to the bin for its type, and the outcome is the number of the bin;", OrdinaryAnswers::toItsBin);
        says("The methods from calibrate to addSample change the data if they succeed.", OrdinaryAnswers::looksChangeNothing);
        says("LOOP = 20, UNSURE = 21, COUNTERFEIT = 22, UNKNOWN = 23, JAM = 24: Outcomes of steps.", OrdinaryAnswers::outcomes);
        says("UNSURE, COUNTERFEIT and UNKNOWN are also verdicts.", OrdinaryAnswers::verdicts);
        says("The constructor and the methods follow, a promise each: the signature, then what it does.", OrdinaryAnswers::face);
    }

    private static void configuration() {
        Sentences.test(7, "Returns the value of a type;", OrdinaryAnswers::typeValues);
        Sentences.test(8, "Returns the type of a bin;", OrdinaryAnswers::binTypes);
        Sentences.test(9, "Returns the number of coins that the bag of a bin can hold;", OrdinaryAnswers::bagSizes);
    }

    private static void classification() {
        Sentences.test(10, "Returns the score of a coin for a type, with the offsets as they are now.", OrdinaryAnswers::offsetsOfNow);
        Sentences.test(10, "Returns the score;", OrdinaryAnswers::scores);
        Sentences.test(11, "Returns the verdict on a coin.", OrdinaryAnswers::verdictOnACoin);
    }

    private static void machine() {
        Sentences.test(17, "Returns the type of the coin at that position;", OrdinaryAnswers::loopTypes);
        Sentences.test(20, "Returns the number of coins in the bag of a bin;", OrdinaryAnswers::binCoins);
        Sentences.test(21, "Returns the bin for a type;", OrdinaryAnswers::binsForTypes);
        Sentences.test(22, "Returns the number of coins that were rejected for that reason", OrdinaryAnswers::rejectedCoins);
        Sentences.test(24, "Returns the outcome;", OrdinaryAnswers::records);
    }

    private static void accounts() {
        Sentences.test(31, "Finds out with how few coins an amount can be paid from the bags of the bins.", OrdinaryAnswers::howFewCoins);
        Sentences.test(32, "Returns how many coins of a type belong to the payout of an amount:", OrdinaryAnswers::coinsOfEachType);
        Sentences.test(32, "Returns the number of coins of the type;", OrdinaryAnswers::coinsOfTheType);
        Sentences.test(34, "Returns the sum of the costs;", OrdinaryAnswers::sumOfCosts);
    }

    private static void changes() {
        Sentences.test(37, "Sets the margin.", OrdinaryAnswers::setsTheMargin);
        Sentences.test(38, "Puts a coin into the hopper.", OrdinaryAnswers::coinsInTheHopper);
        Sentences.test(38, "Returns the number of coins in the hopper;", OrdinaryAnswers::hopperSizes);
        Sentences.test(39, "Does a step.", OrdinaryAnswers::doesAStep);
        Sentences.test(41, "Returns true;", OrdinaryAnswers::clearsJams);
        Sentences.test(43, "Audits a sealed bag.", OrdinaryAnswers::audits);
        Sentences.test(44, "Pays out an amount:", OrdinaryAnswers::paysOut);
        Sentences.test(45, "Adds a labelled sample.", OrdinaryAnswers::addsSamples);
        Sentences.test(45, "Returns the number of samples;", OrdinaryAnswers::sampleNumbers);
    }

    // ---- what the tests are made of

    private static void insertAll(CoinSorter x, int... diameters) {
        for (int diameter : diameters) {
            x.insert(diameter, 1000);
        }
    }

    /** So many coins of types 0, 1 and 2 in bins 0, 1 and 2. */
    private static CoinSorter stocked(int... counts) {
        CoinSorter x = Check.machine(TYPES + "bin 0 60;bin 1 60;bin 2 60;");
        for (int type = 0; type < counts.length; type++) {
            Check.insert(x, counts[type], 1500 + 500 * type, 1000);
        }
        x.run(100);
        return x;
    }

    // ---- what it is

    private static void sorted() {
        CoinSorter x = Check.machine("type 10 2000 50 1000 100;type 20 2000 50 3000 100;type 30 2030 50 3000 100;"
            + "fake 2500 50 1000 100;bin 0 2;bin 1 9;margin 300;");
        int[][] coins = {{2000, 1000}, {2000, 3000}, {2010, 980}, {2015, 3000}, {2500, 1000}, {2200, 1000}, {1990, 1050}, {1970, 2950}};
        int[] outcomes = {0, 1, 0, UNSURE, COUNTERFEIT, UNKNOWN, LOOP, 1};
        for (int i = 0; i < coins.length; i++) {
            x.insert(coins[i][0], coins[i][1]);
        }
        for (int outcome : outcomes) {
            Check.due("step", x.step(), outcome);
        }
        Check.due("the bag is full", x.binFor(0), ABSENT);
        Check.due("a new bag", x.changeBag(0), 0);
        Check.due("the coin comes round again", x.step(), 0);
        Check.due("the loop is empty", x.loopSize(), 0);
    }

    private static void accounted() {
        CoinSorter x = Check.machine(ROOMY);
        insertAll(x, 1600, 1600, 1700, 2500, 1600);
        x.run(100);
        Check.due("changeBag", x.changeBag(1), 0);
        Check.due("bagCoins", x.bagCoins(0), 3);
        Check.due("audit", x.audit(0, 2), -1);
        Check.due("discrepancy", x.discrepancy(), -1);
        Check.due("payoutCoins", x.payoutCoins(7), 2);
        Check.due("dispense", x.dispense(7), 2);
        Check.due("binValue", x.binValue(), 0);
        x.addSample(1640, 1000, -1);
        x.addSample(1620, 1000, 0);
        Check.due("above the difference of 200, not of 600", x.bestMargin(), 201);
        x.setMargin(x.bestMargin());
        Check.due("sampleCost", x.sampleCost(x.margin()), 0);
    }

    private static void all512Calls() {
        CoinSorter x = new CoinSorter();
        CoinSorter other = new CoinSorter();
        for (int call = 1; call <= 510; call++) {
            Check.due("setMargin, call " + call, x.setMargin(call), call == 1 ? 100 : call - 1);
        }
        Check.due("undo, call 511", x.undo(), 11);
        Check.due("margin, call 512", x.margin(), 509);
        Check.due("another object has a margin of its own", other.margin(), 100);
        Check.due("another object has a history of its own", other.undo(), ABSENT);
    }

    // ---- description

    private static void deviations() {
        CoinSorter x = Check.machine("type 1 2000 200 3000 500;");
        for (int[] offsets : new int[][] {{0, 0}, {7, -9}, {-300, 4}}) {
            x.calibrate(0, 2000 - offsets[0], 3000 - offsets[1]);
            for (int d = -3; d <= 3; d++) {
                int diameter = 2000 - offsets[0] + 60 * d;
                int alloy = 3000 - offsets[1] + 100 * (d - 1);
                Check.due("score at " + diameter + ", " + alloy, x.score(0, diameter, alloy), 300 * Math.abs(d) + 200 * Math.abs(d - 1));
            }
        }
        // the type's score is 5 d, the fake's 10 (100 - d): they cross between 66 and 67
        CoinSorter y = Check.machine("type 1 2000 200 1000 500;fake 2100 100 1000 500;");
        Check.due("the type's deviation is less", y.classify(2066, 1000), 0);
        Check.due("the fake's deviation is less", y.classify(2067, 1000), COUNTERFEIT);
        // the type's score is 2 d, the fake's 10 (60 - d): they meet at 50
        CoinSorter z = Check.machine("type 1 2000 200 1000 500;fake 2000 200 1060 100;");
        Check.due("the type's deviation is less", z.classify(2000, 1049), 0);
        Check.due("the deviations are equal", z.classify(2000, 1050), COUNTERFEIT);
    }

    private static void coinsOfOneType() {
        CoinSorter x = Check.machine(TYPES + "bin 2 30;bin 0 30;bin 1 30;bin 0 40;");
        int[] counts = {35, 10, 5};
        for (int i = 0; i < 35; i++) {
            for (int type = 0; type < 3; type++) {
                Check.insert(x, i < counts[type] ? 1 : 0, 1500 + 500 * type, 1000);
            }
            x.run(100);
        }
        Check.due("a bin of type 2", x.binCoins(0), 5);
        Check.due("a bin of type 1", x.binCoins(2), 10);
        Check.due("both bins of type 0", x.binCoins(1) + x.binCoins(3), 35);
        Check.due("binValue", x.binValue(), 5 * 300 + 10 * 20 + 35);
    }

    /** Where the coins are: hopper, loop, gate, reject tray and bins. */
    private static int[] places(CoinSorter x) {
        int[] places = new int[7 + x.binCount()];
        places[0] = x.hopperSize();
        places[1] = x.loopSize();
        places[2] = x.isJammed() ? 1 : 0;
        for (int outcome = UNSURE; outcome <= JAM; outcome++) {
            places[outcome - UNSURE + 3] = x.rejected(outcome);
        }
        for (int bin = 0; bin < x.binCount(); bin++) {
            places[7 + bin] = x.binCoins(bin);
        }
        return places;
    }

    /** The place that has one coin more; -1 if it is not one coin that moved from one place to another. */
    private static int movedTo(int[] before, int[] after) {
        int to = -1;
        int from = -1;
        int sum = 0;
        for (int place = 0; place < before.length; place++) {
            int difference = after[place] - before[place];
            to = difference == 1 ? place : to;
            from = difference == -1 ? place : from;
            sum += Math.abs(difference);
        }
        return from >= 0 && sum == 2 ? to : -1;
    }

    private static void movesOneCoin() {
        CoinSorter x = Check.machine(TYPES + "type 2 2030 50 1000 100;fake 3000 50 1000 100;bin 0 2;bin 1 1;gate 3500;loop 3;");
        insertAll(x, 1500, 2000, 1500, 1990, 1500, 2015, 3000, 3200, 3600);
        int[] due = {7, 8, 7, 1, 1, 3, 4, 5, 2};
        for (int place : due) {
            int[] before = places(x);
            x.step();
            Check.due("the place that the coin moved to", movedTo(before, places(x)), place);
        }
        int[] before = places(x);
        x.clearJam();
        Check.due("clearJam moves the stuck coin to the tray", movedTo(before, places(x)), 6);
        x.changeBag(0);
        before = places(x);
        x.step();
        Check.due("from the loop", movedTo(before, places(x)), 7);
        Check.due("from the loop", before[1] - x.loopSize(), 1);
    }

    private static void isClassified() {
        CoinSorter x = Check.machine(ROOMY);
        for (int round = 0; round < 3; round++) {
            for (int diameter = 1480; diameter <= 2600; diameter += 35) {
                int verdict = x.classify(diameter, 1020);
                x.insert(diameter, 1020);
                int outcome = x.step();
                Check.due("step after classify of " + diameter, verdict < LOOP ? x.binType(outcome) : outcome, verdict);
            }
            x.setMargin(round == 0 ? 1000 : 0);
            x.calibrate(0, 1610 + 20 * round, 990);
        }
        CoinSorter y = Check.machine(ROOMY);
        insertAll(y, 1640, 1640, 1700);
        Check.due("with the margin of now", y.step(), 1);
        y.setMargin(201);
        Check.due("with the margin of now", y.step(), UNSURE);
        y.calibrate(0, 1700, 1000);
        y.setMargin(0);
        Check.due("with the offsets of now", y.step(), 1);
    }

    private static void toItsBin() {
        CoinSorter x = Check.machine(TYPES + "bin 1 3;bin 0 2;bin 2 4;bin 0 4;bin 1 2;");
        int[] types = {0, 1, 2, 1, 0, 0, 2, 1, 1, 1, 0, 2};
        for (int type : types) {
            x.insert(1500 + 500 * type, 1000);
        }
        for (int type : types) {
            int bin = x.binFor(type);
            int coins = x.binCoins(bin);
            int hopper = x.hopperSize();
            Check.due("the bin's type", x.binType(bin), type);
            Check.due("step", x.step(), bin);
            Check.due("one more in the bin", x.binCoins(bin), coins + 1);
            Check.due("one less in the hopper", x.hopperSize(), hopper - 1);
        }
    }

    /** Each method that is no change, with arguments that it takes. */
    private static void looksChangeNothing() {
        Twins.same("looking", Machines::busy, x -> {
            Sight.of(x);
            x.score(1, 2000, 1000);
            x.classify(2520, 1000);
            x.rejected(JAM);
            x.payoutCoins(20);
            x.payoutOf(20, 1);
            x.sampleCost(300);
            x.bestMargin();
        });
        Twins.same("looking while jammed", Machines::jammed, Sight::of);
        Twins.same("looking while stopped", Machines::stopped, Sight::of);
    }

    private static void outcomes() {
        CoinSorter x = Check.machine(TYPES + "type 2 2030 50 1000 100;fake 3000 50 1000 100;bin 0 1;gate 3500;");
        insertAll(x, 1500, 1500, 2015, 3000, 3200, 3600);
        int[] due = {0, 20, 21, 22, 23, 24};
        for (int outcome : due) {
            Check.due("step", x.step(), outcome);
        }
        int[] constants = {LOOP, UNSURE, COUNTERFEIT, UNKNOWN, JAM};
        for (int i = 0; i < 5; i++) {
            Check.due("the constant", constants[i], 20 + i);
            Check.due("the record", x.record(i + 1), 20 + i);
        }
    }

    private static void verdicts() {
        CoinSorter x = Check.machine(TYPES + "type 2 2030 50 1000 100;fake 3000 50 1000 100;");
        Check.due("UNSURE", x.classify(2015, 1000), 21);
        Check.due("COUNTERFEIT", x.classify(3000, 1000), 22);
        Check.due("UNKNOWN", x.classify(3200, 1000), 23);
    }

    /** FaceTest holds each signature against the program. */
    private static void face() {
        int methods = 0;
        for (Method method : CoinSorter.class.getDeclaredMethods()) {
            methods += Modifier.isPublic(method.getModifiers()) ? 1 : 0;
        }
        Check.due("the constructor and the methods", CoinSorter.class.getConstructors().length + methods, 48);
    }

    // ---- promises 7 to 11

    private static void typeValues() {
        int[] values = {5, 500, 1, 20, 20, 7, 100, 2};
        StringBuilder text = new StringBuilder();
        for (int value : values) {
            text.append("type ").append(value).append(" 2000 50 1000 100;");
        }
        CoinSorter x = Check.machine(text.toString());
        for (int type = 0; type < 8; type++) {
            Check.due("typeValue " + type, x.typeValue(type), values[type]);
        }
        x.calibrate(0, 1990, 1000);
        Check.due("with other offsets", x.typeValue(1), 500);
    }

    private static void binTypes() {
        CoinSorter x = Check.machine(TYPES + "bin 2 30;bin 0 31;bin 1 32;bin 0 33;");
        int[] types = {2, 0, 1, 0};
        for (int bin = 0; bin < 4; bin++) {
            Check.due("binType " + bin, x.binType(bin), types[bin]);
        }
    }

    private static void bagSizes() {
        CoinSorter x = Check.machine(TYPES + "bin 2 30;bin 0 1;bin 1 100;bin 0 33;");
        int[] sizes = {30, 1, 100, 33};
        insertAll(x, 1500, 1500, 2000);
        x.run(100);
        x.changeBag(1);
        for (int bin = 0; bin < 4; bin++) {
            Check.due("bagSize " + bin + ", whatever it holds", x.bagSize(bin), sizes[bin]);
        }
    }

    private static void offsetsOfNow() {
        CoinSorter x = Check.machine("type 1 2000 100 1000 100;");
        Check.due("at first", x.score(0, 2010, 1020), 100 + 200);
        x.saveSnapshot(0);
        x.calibrate(0, 2010, 1000);
        Check.due("calibrated", x.score(0, 2010, 1020), 200);
        x.calibrate(0, 2040, 1020);
        Check.due("calibrated again", x.score(0, 2010, 1020), 300);
        x.undo();
        Check.due("undone", x.score(0, 2010, 1020), 200);
        x.restoreSnapshot(0);
        Check.due("restored", x.score(0, 2010, 1020), 100 + 200);
    }

    private static void scores() {
        StringBuilder text = new StringBuilder();
        for (int type = 0; type < 8; type++) {
            text.append("type 1 ").append(2000 + type).append(" 100 ").append(1000 + 10 * type).append(" 100;");
        }
        CoinSorter x = Check.machine(text.toString());
        for (int type = 0; type < 8; type++) {
            Check.due("score for type " + type, x.score(type, 2000, 1000), 10 * type + 100 * type);
        }
    }

    private static void verdictOnACoin() {
        CoinSorter x = Check.machine(TYPES + "type 2 2030 50 1000 100;fake 3000 50 1000 100;");
        int[] diameters = {1500, 1990, 2015, 2040, 2500, 2600, 3000};
        int[] verdicts = {0, 1, UNSURE, 3, 2, UNKNOWN, COUNTERFEIT};
        for (int i = 0; i < 7; i++) {
            Check.due("classify " + diameters[i], x.classify(diameters[i], 1000), verdicts[i]);
            Check.due("another alloy", x.classify(diameters[i], 5000), UNKNOWN);
        }
        x.calibrate(1, 1500, 1000);
        Check.due("with the offsets of now", x.classify(1490, 1000), 1);
        x.setMargin(0);
        Check.due("with the margin of now", x.classify(1514, 1000), 1);
    }

    // ---- promises 17 to 24

    private static void loopTypes() {
        CoinSorter x = Check.machine(TYPES + "bin 0 1;bin 1 1;bin 2 1;");
        insertAll(x, 1500, 2000, 2500, 2000, 2500, 1500, 2500);
        x.run(100);
        int[] types = {1, 2, 0, 2};
        for (int position = 0; position < 4; position++) {
            Check.due("loopType " + position, x.loopType(position), types[position]);
        }
    }

    private static void binCoins() {
        CoinSorter x = stocked(4, 3, 2);
        int[] coins = {4, 3, 2};
        for (int bin = 0; bin < 3; bin++) {
            Check.due("binCoins " + bin, x.binCoins(bin), coins[bin]);
        }
        x.dispense(41);
        Check.due("after dispense", x.binCoins(0), 3);
        Check.due("after dispense", x.binCoins(1), 1);
        x.changeBag(2);
        Check.due("after changeBag", x.binCoins(2), 0);
        x.undo();
        Check.due("after undo", x.binCoins(2), 2);
    }

    private static void binsForTypes() {
        CoinSorter x = Check.machine(TYPES + "bin 2 3;bin 0 5;bin 1 7;bin 2 2;");
        Check.due("binFor(0)", x.binFor(0), 1);
        Check.due("binFor(1)", x.binFor(1), 2);
        Check.due("binFor(2)", x.binFor(2), 3);
        insertAll(x, 2500, 2500);
        x.run(2);
        Check.due("the other one of type 2", x.binFor(2), 0);
    }

    private static void rejectedCoins() {
        CoinSorter x = Check.machine(TYPES + "type 2 2030 50 1000 100;fake 3000 50 1000 100;bin 0 1;gate 3500;");
        insertAll(x, 2015, 3000, 3200, 3000, 2500, 1500, 3600, 3200);
        x.run(100);
        x.clearJam();
        x.run(100);
        Check.due("UNSURE", x.rejected(UNSURE), 1);
        Check.due("COUNTERFEIT", x.rejected(COUNTERFEIT), 2);
        Check.due("UNKNOWN, one of them without a bin", x.rejected(UNKNOWN), 3);
        Check.due("JAM", x.rejected(JAM), 1);
        x.undo();
        Check.due("undone", x.rejected(UNKNOWN), 2);
    }

    private static void records() {
        CoinSorter x = Check.machine(TYPES + "bin 0 1;bin 1 5;");
        insertAll(x, 2000, 1500, 2500, 1500, 2000);
        int[] outcomes = {1, 0, UNKNOWN, LOOP, 1};
        Check.due("run", x.run(5), 5);
        for (int index = 0; index < 5; index++) {
            Check.due("record " + index, x.record(index), outcomes[index]);
        }
        x.changeBag(0);
        Check.due("step", x.step(), 0);
        Check.due("the step from the loop", x.record(5), 0);
    }

    // ---- promises 31 to 34

    private static void howFewCoins() {
        CoinSorter x = stocked(25, 3, 2);
        int[][] due = {{1, 1}, {19, 19}, {20, 1}, {25, 6}, {60, 3}, {80, 23}, {300, 1}, {321, 3}, {685, 30}, {86, ABSENT}};
        for (int[] pair : due) {
            Check.due("payoutCoins " + pair[0], x.payoutCoins(pair[0]), pair[1]);
        }
        Check.due("the coins are still there", x.binValue(), 25 + 60 + 600);
        x.changeBag(1);
        Check.due("the bags of the bins alone", x.payoutCoins(20), 20);
    }

    private static void coinsOfEachType() {
        CoinSorter x = stocked(25, 3, 2);
        int[][] due = {{1, 1, 0, 0}, {25, 5, 1, 0}, {80, 20, 3, 0}, {345, 5, 2, 1}, {685, 25, 3, 2}};
        for (int[] row : due) {
            for (int type = 0; type < 3; type++) {
                Check.due("payoutOf " + row[0] + ", " + type, x.payoutOf(row[0], type), row[1 + type]);
            }
        }
    }

    /** What payoutOf tells of each type adds up to the amount and to payoutCoins. */
    private static void coinsOfTheType() {
        CoinSorter x = stocked(25, 3, 2);
        for (int amount = 1; amount <= 685; amount += 17) {
            int coins = x.payoutCoins(amount);
            int[] counts = {x.payoutOf(amount, 0), x.payoutOf(amount, 1), x.payoutOf(amount, 2)};
            if (coins == ABSENT) {
                Check.due("payoutOf " + amount, counts[0], ABSENT);
            } else {
                Check.due("the coins of " + amount, counts[0] + counts[1] + counts[2], coins);
                Check.due("the values of " + amount, counts[0] + 20 * counts[1] + 300 * counts[2], amount);
            }
        }
    }

    private static void sumOfCosts() {
        CoinSorter x = Check.machine(ROOMY);
        int[][] samples = {{1600, 0, 0}, {1600, 1, 5}, {1650, 0, 1}, {2200, 2, 1}, {2500, 2, 0}, {1700, -1, 10}, {2200, -1, 0}};
        int sum = 0;
        for (int[] sample : samples) {
            x.addSample(sample[0], 1000, sample[1]);
            sum += sample[2];
            Check.due("with the sample of " + sample[0], x.sampleCost(100), sum);
        }
    }

    // ---- promises 37 to 45

    private static void setsTheMargin() {
        CoinSorter x = Check.machine(ROOMY);
        Check.due("classify", x.classify(1640, 1000), 0);
        x.setMargin(250);
        Check.due("margin", x.margin(), 250);
        Check.due("classify", x.classify(1640, 1000), UNSURE);
        x.setMargin(30);
        Check.due("margin", x.margin(), 30);
        Check.due("classify", x.classify(1640, 1000), 0);
    }

    private static void coinsInTheHopper() {
        CoinSorter x = Check.machine("type 1 2000 50 1000 100;type 2 2000 50 3000 100;bin 1 9;bin 0 9;");
        x.insert(2010, 1000);
        x.insert(2010, 3000);
        x.insert(1000, 2010);
        Check.due("nothing is sorted yet", x.stepCount(), 0);
        Check.due("the first", x.step(), 1);
        Check.due("another alloy", x.step(), 0);
        Check.due("diameter and alloy are not exchanged", x.step(), UNKNOWN);
    }

    private static void hopperSizes() {
        CoinSorter x = Check.machine(ROOMY);
        Check.due("the first", x.insert(1600, 1000), 1);
        Check.due("the second", x.insert(1600, 1000), 2);
        x.step();
        Check.due("after a step", x.insert(1600, 1000), 2);
        x.undo();
        x.undo();
        Check.due("after undo", x.insert(1600, 1000), 3);
        x.insert(3001, 1000);
        x.run(100);
        Check.due("while jammed", x.insert(1600, 1000), 1);
    }

    private static void doesAStep() {
        CoinSorter x = Check.machine(ROOMY);
        insertAll(x, 1600, 1700, 2500);
        int[] bins = {1, 2, 0};
        for (int i = 0; i < 3; i++) {
            Check.due("step", x.step(), bins[i]);
            Check.due("stepCount", x.stepCount(), i + 1);
            Check.due("hopperSize", x.hopperSize(), 2 - i);
            Check.due("record", x.record(i), bins[i]);
        }
        x.undo();
        Check.due("a change of its own", x.stepCount(), 2);
    }

    private static void clearsJams() {
        CoinSorter x = Check.machine(ROOMY);
        for (int jam = 1; jam <= 3; jam++) {
            x.insert(3000 + jam, 1000);
            Check.due("step", x.step(), JAM);
            Check.due("clearJam", x.clearJam(), true);
            Check.due("rejected", x.rejected(JAM), jam);
        }
    }

    private static void audits() {
        CoinSorter x = stocked(4, 3, 2);
        for (int bin = 0; bin < 3; bin++) {
            x.changeBag(2 - bin);
        }
        Check.due("the last first", x.audit(2, 4), 0);
        Check.due("two more of 300", x.audit(0, 4), 2);
        Check.due("three less of 20", x.audit(1, 0), -3);
        Check.due("discrepancy", x.discrepancy(), 600 - 60);
        Check.due("worstBag", x.worstBag(), 0);
        Check.due("no bag more", x.bagCount(), 3);
        Check.due("no bag is changed", x.bagCoins(0), 2);
    }

    private static void paysOut() {
        CoinSorter x = stocked(25, 3, 2);
        int[] amounts = {345, 300, 22, 3};
        int value = 685;
        for (int amount : amounts) {
            int[] left = new int[3];
            for (int type = 0; type < 3; type++) {
                left[type] = x.binCoins(type) - x.payoutOf(amount, type);
            }
            int coins = x.payoutCoins(amount);
            Check.due("dispense " + amount, x.dispense(amount), coins);
            value -= amount;
            Check.due("binValue", x.binValue(), value);
            for (int type = 0; type < 3; type++) {
                Check.due("binCoins " + type, x.binCoins(type), left[type]);
            }
        }
        Check.due("the bags are not sealed", x.bagCount(), 0);
    }

    private static void addsSamples() {
        CoinSorter x = Check.machine("type 1 2000 50 1000 100;type 2 2000 50 3000 100;");
        x.addSample(2010, 3000, 1);
        Check.due("its label is its verdict", x.sampleCost(0), 0);
        x.addSample(2010, 3000, 0);
        Check.due("another label", x.sampleCost(0), 5);
        x.addSample(3000, 2010, -1);
        Check.due("no genuine coin", x.sampleCost(0), 5);
        x.addSample(2010, 1000, -1);
        Check.due("no genuine coin, but taken", x.sampleCost(0), 15);
        Check.due("no coin in the hopper", x.hopperSize(), 0);
    }

    private static void sampleNumbers() {
        CoinSorter x = Check.machine(ROOMY);
        for (int sample = 1; sample <= 5; sample++) {
            Check.due("addSample", x.addSample(1600, 1000, sample % 3 - 1), sample);
            Check.due("sampleCount", x.sampleCount(), sample);
        }
        x.undo();
        Check.due("after undo", x.addSample(1600, 1000, 0), 5);
        Check.due("no type is needed for a sample of none", x.addSample(1600, 1000, -1), 6);
        Check.due("there is no type 3", x.addSample(1600, 1000, 3), INVALID);
    }
}
