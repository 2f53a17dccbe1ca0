import java.util.function.Consumer;

/** The boundary cases of measuring, classifying and sorting, and of promises 10 to 25 and 36 to 41. */
final class MachineLimits {
    private static final int INVALID = CoinSorter.INVALID, ABSENT = CoinSorter.ABSENT, FULL = CoinSorter.FULL;
    private static final int LOOP = CoinSorter.LOOP, UNSURE = CoinSorter.UNSURE, COUNTERFEIT = CoinSorter.COUNTERFEIT;
    private static final int UNKNOWN = CoinSorter.UNKNOWN, JAM = CoinSorter.JAM;
    private static final int MIN = Integer.MIN_VALUE, MAX = Integer.MAX_VALUE;
    private static final int[] NO_DIAMETER = {0, -1, 4001, MIN, MAX};
    private static final int[] NO_ALLOY = {-1, 10000, MIN, MAX};
    /** Types 0, 1 and 2 at the diameters 1500, 2000 and 2500. */
    private static final String TYPES = "type 1 1500 50 1000 100;type 20 2000 50 1000 100;type 300 2500 50 1000 100;";

    private MachineLimits() {
    }

    static void test() {
        measurements();
        classification();
        bins();
        steps();
        scoreAndClassify();
        offsetsAndMargin();
        looks();
        calibrateAndSetMargin();
        insertAndStep();
        runAndClearJam();
    }

    private static void says(String words, Runnable body) {
        Sentences.test(Sentences.DESCRIPTION, words, body);
    }

    private static void measurements() {
        says("A coin has a measured diameter, 1 to 4000, and a measured alloy, 0 to 9999.", MachineLimits::coins);
        says("The machine has a diameter offset and an alloy offset, both 0 at first.", MachineLimits::offsetsAtFirst);
        says("A corrected measurement is the measurement plus the offset; it may be negative.", MachineLimits::negative);
    }

    private static void classification() {
        says("divided by the tolerance of the type at this sensor and rounded up.", MachineLimits::roundedUp);
        says("The coin fits the type if both deviations are at most 1000.", MachineLimits::fits);
        says("Then the score of the coin for the type is the sum of both deviations.", MachineLimits::scores);
        says("The verdict is the first of these that applies:", MachineLimits::firstVerdict);
        says("COUNTERFEIT: the coin fits a fake, and no type that it fits has a score less than the lowest score for a fake that"
            + " it fits.", MachineLimits::counterfeit);
        says("UNKNOWN: the coin fits no type.", MachineLimits::unknown);
        says("UNSURE: the coin fits at least two types, and the second lowest score minus the lowest score is less than the margin",
            MachineLimits::unsure);
        says("(the second lowest score may be equal to the lowest).", MachineLimits::equalScores);
        says("Otherwise the type with the lowest score; of equal scores the type with the lowest number.", MachineLimits::lowest);
    }

    private static void bins() {
        says("It has a hopper (a queue of at most 60 coins),", MachineLimits::hopperOf60);
        says("a loop (a queue of at most capacity coins, whose types are known),", MachineLimits::loopOfCapacity);
        says("in a bag that holds at most size coins; a bin is full if its bag holds size coins.", MachineLimits::fullBin);
        says("The bin for a type is, among the bins of this type that are not full, the one that needs the fewest coins to be full;",
            MachineLimits::fewestCoins);
        says("of equals the one with the lowest number.", MachineLimits::equalBins);
    }

    private static void steps() {
        says("If the machine is jammed, no step is possible.", MachineLimits::noStepIfJammed);
        says("Otherwise, if the loop holds a coin for whose type there is a bin (that is not full), the oldest such coin moves from the loop"
            + " to the bin for its type. The outcome is the number of the bin.", MachineLimits::loopFirst);
        says("Otherwise, if the hopper is empty, no step is possible.", MachineLimits::emptyHopper);
        says("If not, the oldest coin of the hopper is next.", MachineLimits::oldestIsNext);
        says("If its measured diameter (not corrected) is greater than the width of the gate, it gets stuck in the gate and the"
            + " machine is jammed: the outcome is JAM.", MachineLimits::stuck);
        says("If the verdict is UNSURE, COUNTERFEIT or UNKNOWN, or if no bin has its type (which counts as UNKNOWN), it moves to"
            + " the reject tray, and that is the outcome.", MachineLimits::rejects);
        says("or, if all bins of its type are full, to the end of the loop, and the outcome is LOOP.", MachineLimits::toTheLoop);
        says("If all bins of its type are full and the loop holds capacity coins, the coin stays in the hopper and no step is"
            + " possible; the machine is then stopped.", MachineLimits::staysInTheHopper);
        says("The outcomes of all steps are recorded; the latest 40 records are kept.", MachineLimits::latest40);
    }

    private static void scoreAndClassify() {
        Sentences.test(10, "measured diameter, 1 to 4000", MachineLimits::scoreDiameters);
        Sentences.test(10, "measured alloy, 0 to 9999", MachineLimits::scoreAlloys);
        Sentences.test(10, "ABSENT if the coin does not fit the type.", MachineLimits::scoreAbsent);
        Sentences.test(10, "Throws IndexOutOfBoundsException if there is no such type (checked first)", MachineLimits::scoreNoType);
        Sentences.test(10, "Throws IllegalArgumentException if diameter or alloy is out of range", MachineLimits::scoreOutOfRange);
        Sentences.test(11, "measured diameter, 1 to 4000", MachineLimits::classifyDiameters);
        Sentences.test(11, "measured alloy, 0 to 9999", MachineLimits::classifyAlloys);
        Sentences.test(11, "Returns the number of the type, UNSURE, COUNTERFEIT or UNKNOWN.", MachineLimits::verdicts);
        Sentences.test(11, "Throws IllegalArgumentException if an argument is out of range", MachineLimits::classifyOutOfRange);
    }

    private static void offsetsAndMargin() {
        Sentences.test(12, "Returns the diameter offset.", MachineLimits::diameterOffsets);
        Sentences.test(13, "Returns the alloy offset.", MachineLimits::alloyOffsets);
        Sentences.test(14, "Returns the margin.", MachineLimits::marginEnds);
    }

    private static void looks() {
        Sentences.test(15, "Returns the number of coins in the hopper.", MachineLimits::hopperSizes);
        Sentences.test(16, "Returns the number of coins in the loop.", MachineLimits::loopSizes);
        Sentences.test(17, "a position in the loop, 0 for the oldest coin", MachineLimits::loopPositions);
        Sentences.test(17, "INVALID if there is no such position.", MachineLimits::noPosition);
        Sentences.test(18, "Returns true if the machine is jammed.", MachineLimits::jammed);
        Sentences.test(19, "Returns true if the machine is stopped: it is not jammed,", MachineLimits::jammedIsNotStopped);
        Sentences.test(19, "and no step is possible because the next coin of the hopper has no room in its bins and in the loop.",
            MachineLimits::stopped);
        Sentences.test(20, "INVALID if there is no such bin.", MachineLimits::binCoinsNoBin);
        Sentences.test(21, "ABSENT if there is none that is not full;", MachineLimits::binForAbsent);
        Sentences.test(21, "INVALID if there is no such type.", MachineLimits::binForNoType);
        Sentences.test(22, "UNSURE, COUNTERFEIT, UNKNOWN or JAM", MachineLimits::rejectedCounts);
        Sentences.test(22, "(for JAM: removed from the gate);", MachineLimits::rejectedJam);
        Sentences.test(22, "INVALID for any other outcome.", MachineLimits::rejectedOther);
        Sentences.test(23, "Returns the number of steps so far.", MachineLimits::stepCounts);
        Sentences.test(24, "index of a record, 0 for the oldest one that is kept", MachineLimits::recordIndexes);
        Sentences.test(24, "INVALID if there is no such record.", MachineLimits::noRecord);
        Sentences.test(25, "Returns the sum of the values of all coins in the bags of the bins.", MachineLimits::binValues);
    }

    private static void calibrateAndSetMargin() {
        Sentences.test(36, "Sets the offsets so that a measured coin has exactly the nominal values of a type.", MachineLimits::exactly);
        Sentences.test(36, "measured diameter, 1 to 4000", MachineLimits::calibrateDiameters);
        Sentences.test(36, "measured alloy, 0 to 9999", MachineLimits::calibrateAlloys);
        Sentences.test(36, "Returns true; false, with nothing changed, if there is no such type or an argument is out of range.",
            MachineLimits::calibrateRefuses);
        Sentences.test(37, "0 to 2000", MachineLimits::setMarginEnds);
        Sentences.test(37, "Returns the previous margin;", MachineLimits::previousMargin);
        Sentences.test(37, "INVALID, with nothing changed, if margin is out of range.", MachineLimits::setMarginRefuses);
        Sentences.test(37, "It is a change also if the margin is the same as before.", MachineLimits::sameMargin);
    }

    private static void insertAndStep() {
        Sentences.test(38, "measured diameter, 1 to 4000", MachineLimits::insertDiameters);
        Sentences.test(38, "measured alloy, 0 to 9999", MachineLimits::insertAlloys);
        Sentences.test(38, "INVALID if an argument is out of range (checked first);", MachineLimits::insertRefuses);
        Sentences.test(38, "FULL if there are 60 coins in the hopper.", MachineLimits::insertFull);
        Sentences.test(39, "Returns the outcome: the number of a bin, LOOP, UNSURE, COUNTERFEIT, UNKNOWN or JAM;", MachineLimits::outcomes);
        Sentences.test(39, "ABSENT, with nothing changed, if no step is possible.", MachineLimits::stepAbsent);
    }

    private static void runAndClearJam() {
        Sentences.test(40, "Does steps until n steps are done or no step is possible.", MachineLimits::runUntil);
        Sentences.test(40, "All of them together are one change, if there is at least one.", MachineLimits::oneChange);
        Sentences.test(40, "1 to 100", MachineLimits::runEnds);
        Sentences.test(40, "Returns the number of steps done;", MachineLimits::stepsDone);
        Sentences.test(40, "INVALID if n is out of range.", MachineLimits::runRefuses);
        Sentences.test(41, "Removes the coin from the gate if the machine is jammed. The coin goes to the reject tray; the machine is no"
            + " longer jammed.", MachineLimits::clearedJam);
        Sentences.test(41, "false if the machine is not jammed.", MachineLimits::noJam);
    }

    // ---- measurements

    private static void coins() {
        CoinSorter x = new CoinSorter();
        Check.due("the least of both", x.insert(1, 0), 1);
        Check.due("the least and the greatest", x.insert(1, 9999), 2);
        Check.due("the greatest and the least", x.insert(4000, 0), 3);
        Check.due("the greatest of both", x.insert(4000, 9999), 4);
        Check.due("below the least diameter", x.insert(0, 0), INVALID);
        Check.due("above the greatest diameter", x.insert(4001, 0), INVALID);
        Check.due("below the least alloy", x.insert(1, -1), INVALID);
        Check.due("above the greatest alloy", x.insert(1, 10000), INVALID);
    }

    private static void offsetsAtFirst() {
        CoinSorter x = new CoinSorter();
        Check.due("diameterOffset", x.diameterOffset(), 0);
        Check.due("alloyOffset", x.alloyOffset(), 0);
        Check.load(x, TYPES);
        Check.due("score of the nominal values", x.score(0, 1500, 1000), 0);
    }

    private static void negative() {
        CoinSorter x = Check.machine("type 1 1000 200 0 500;fake 1000 200 400 500;margin 0;");
        x.calibrate(0, 4000, 9999);
        Check.due("an alloy of -499", x.score(0, 4000, 9500), 998);
        Check.due("an alloy of -500", x.score(0, 4000, 9499), 1000);
        Check.due("an alloy of -501", x.score(0, 4000, 9498), ABSENT);
        Check.due("an alloy of -100, which the fake fits less", x.classify(4000, 9899), 0);
        Check.due("a diameter of -2999 and an alloy of -9999", x.classify(1, 0), UNKNOWN);
        Check.due("a diameter of -2999", x.score(0, 1, 9999), ABSENT);
        Check.due("a diameter of 0", x.score(0, 3000, 9999), ABSENT);
        Check.due("a diameter of 800", x.score(0, 3800, 9999), 1000);
    }

    // ---- classification

    private static void roundedUp() {
        CoinSorter x = Check.machine("type 1 2000 3 1000 7;type 1 2000 200 1000 500;type 1 2000 199 1000 499;");
        Check.due("1000 / 3", x.score(0, 2001, 1000), 334);
        Check.due("1000 / 3 below", x.score(0, 1999, 1000), 334);
        Check.due("2000 / 3", x.score(0, 2002, 1000), 667);
        Check.due("3000 / 3", x.score(0, 2003, 1000), 1000);
        Check.due("1000 / 7", x.score(0, 2000, 1001), 143);
        Check.due("6000 / 7", x.score(0, 2000, 994), 858);
        Check.due("each is rounded", x.score(0, 2001, 1001), 334 + 143);
        Check.due("1000 / 200", x.score(1, 2001, 1000), 5);
        Check.due("1000 / 500", x.score(1, 2000, 1001), 2);
        Check.due("1000 / 199", x.score(2, 2001, 1000), 6);
        Check.due("1000 / 499", x.score(2, 2000, 1001), 3);
        Check.due("0 / 199", x.score(2, 2000, 1000), 0);
    }

    private static void fits() {
        CoinSorter x = Check.machine("type 1 2000 30 1000 70;");
        int[][] inside = {{2030, 1000}, {1970, 1000}, {2000, 1070}, {2000, 930}, {2030, 1070}, {1970, 930}, {2030, 930}, {1970, 1070}};
        for (int[] coin : inside) {
            Check.due("fits", x.score(0, coin[0], coin[1]) >= 1000, true);
            Check.due("verdict", x.classify(coin[0], coin[1]), 0);
        }
        int[][] outside = {{2031, 1000}, {1969, 1000}, {2000, 1071}, {2000, 929}, {2031, 1070}, {2030, 1071}, {1969, 929}, {1969, 1000}};
        for (int[] coin : outside) {
            Check.due("does not fit", x.score(0, coin[0], coin[1]), ABSENT);
            Check.due("verdict", x.classify(coin[0], coin[1]), UNKNOWN);
        }
    }

    private static void scores() {
        CoinSorter x = Check.machine("type 1 2000 30 1000 70;");
        Check.due("the least score", x.score(0, 2000, 1000), 0);
        Check.due("the greatest score", x.score(0, 2030, 1070), 2000);
        Check.due("the greatest score below", x.score(0, 1970, 930), 2000);
        Check.due("the diameter alone", x.score(0, 1985, 1000), 500);
        Check.due("the alloy alone", x.score(0, 2000, 1035), 500);
        Check.due("both", x.score(0, 1985, 1035), 1000);
    }

    private static void firstVerdict() {
        CoinSorter x = Check.machine("type 1 2000 100 1000 100;type 2 2010 100 1000 100;fake 2005 100 1000 100;"
            + "fake 3000 100 1000 100;margin 101;");
        Check.due("COUNTERFEIT before UNSURE", x.classify(2005, 1000), COUNTERFEIT);
        Check.due("COUNTERFEIT before UNKNOWN", x.classify(3000, 1000), COUNTERFEIT);
        Check.due("UNSURE before a type", x.classify(2000, 1000), UNSURE);
        x.setMargin(0);
        Check.due("COUNTERFEIT before a type", x.classify(2004, 1000), COUNTERFEIT);
        Check.due("a type", x.classify(2000, 1000), 0);
    }

    private static void counterfeit() {
        CoinSorter x = Check.machine("type 1 2000 100 1000 100;fake 2100 100 1000 100;margin 0;");
        Check.due("the type's score is less", x.classify(2049, 1000), 0);
        Check.due("equal scores", x.classify(2050, 1000), COUNTERFEIT);
        Check.due("the fake's score is less", x.classify(2051, 1000), COUNTERFEIT);
        Check.due("the fake at its tolerance, no type", x.classify(2200, 1100), COUNTERFEIT);
        Check.due("the type at its tolerance, no fake", x.classify(1999, 1000), 0);
        Check.due("both at their tolerance", Check.machine("type 1 2000 50 1000 100;fake 2100 50 1000 100;").classify(2050, 1000),
            COUNTERFEIT);
        CoinSorter y = Check.machine("fake 2100 100 1000 100;type 1 2000 100 1000 100;fake 2060 100 1000 100;margin 0;");
        Check.due("the lowest score of the fakes counts", y.classify(2030, 1000), COUNTERFEIT);
        Check.due("a type below all fakes", y.classify(2029, 1000), 0);
        CoinSorter z = Check.machine("type 1 2000 100 1000 100;type 2 2100 100 1000 100;fake 2060 100 1000 100;margin 0;");
        Check.due("another type is below the fake", z.classify(2081, 1000), 1);
        Check.due("no type is below the fake", z.classify(2080, 1000), COUNTERFEIT);
    }

    private static void unknown() {
        Check.due("no types at all", new CoinSorter().classify(2000, 1000), UNKNOWN);
        Check.due("a fake alone that it does not fit", Check.machine("fake 3000 30 1000 70;").classify(3031, 1000), UNKNOWN);
        CoinSorter x = Check.machine("type 1 2000 30 1000 70;type 1 2500 30 1000 70;");
        Check.due("between two types", x.classify(2250, 1000), UNKNOWN);
        Check.due("one step beyond", x.classify(2031, 1000), UNKNOWN);
        Check.due("at the tolerance", x.classify(2030, 1000), 0);
        x.setMargin(2000);
        Check.due("with the greatest margin", x.classify(2250, 1000), UNKNOWN);
    }

    private static void unsure() {
        // scores at 2000 + d: 10 d and 10 (100 - d)
        CoinSorter x = Check.machine("type 1 2000 100 1000 100;type 2 2100 100 1000 100;");
        for (int margin : new int[] {20, 100, 980}) {
            x.setMargin(margin);
            int near = 2050 - margin / 20;
            Check.due("the difference is " + margin, x.classify(near, 1000), 0);
            Check.due("the difference is less than " + margin, x.classify(near + 1, 1000), UNSURE);
            x.setMargin(margin + 1);
            Check.due("the margin is one more than " + margin, x.classify(near, 1000), UNSURE);
        }
        x.setMargin(2000);
        Check.due("fits one type alone", x.classify(1999, 1000), 0);
        Check.due("fits the second at its tolerance", x.classify(2000, 1000), UNSURE);
        CoinSorter y = Check.machine("type 1 2000 100 1000 100;type 2 2100 100 1100 100;margin 2000;");
        Check.due("the greatest difference of all", y.classify(2000, 1000), 0);
        Check.due("a difference of 1980", y.classify(2001, 1000), UNSURE);
        y.setMargin(1980);
        Check.due("a difference of 1980, no less than the margin", y.classify(2001, 1000), 0);
        // scores at 2001: 590, 10 and 90, in each order
        String[] types = {"type 1 2060 100 1000 100;", "type 1 2000 100 1000 100;", "type 1 2010 100 1000 100;"};
        int[][] orders = {{0, 1, 2}, {0, 2, 1}, {1, 0, 2}, {1, 2, 0}, {2, 0, 1}, {2, 1, 0}};
        for (int[] order : orders) {
            CoinSorter z = Check.machine(types[order[0]] + types[order[1]] + types[order[2]] + "margin 80;");
            int first = order[0] == 1 ? 0 : order[1] == 1 ? 1 : 2;
            Check.due("the second lowest is 80 above", z.classify(2001, 1000), first);
            z.setMargin(81);
            Check.due("80 is less than 81", z.classify(2001, 1000), UNSURE);
        }
    }

    private static void equalScores() {
        CoinSorter x = Check.machine("type 1 2000 100 1000 100;type 2 2000 100 1000 100;margin 1;");
        Check.due("equal scores, margin 1", x.classify(2000, 1000), UNSURE);
        Check.due("equal scores of 2000, margin 1", x.classify(2100, 1100), UNSURE);
        CoinSorter y = Check.machine("type 1 2000 100 1000 100;type 2 2020 100 1000 100;type 3 2020 100 1000 100;margin 1;");
        Check.due("the equals come last", y.classify(2020, 1000), UNSURE);
        Check.due("the equals are not the lowest", y.classify(2001, 1000), 0);
    }

    private static void lowest() {
        CoinSorter x = Check.machine("type 1 2020 100 1000 100;type 2 2000 100 1000 100;type 3 2000 100 1000 100;margin 0;");
        Check.due("of equals the lowest number", x.classify(2000, 1000), 1);
        Check.due("of three equals the lowest number", x.classify(2010, 1000), 0);
        Check.due("the lowest score comes first", x.classify(2011, 1000), 0);
        CoinSorter y = Check.machine("type 1 2000 100 1000 100;".repeat(7) + "type 1 2001 100 1000 100;margin 0;");
        Check.due("the lowest score comes last", y.classify(2001, 1000), 7);
        Check.due("the lowest of seven", y.classify(2000, 1000), 0);
    }

    // ---- the hopper, the loop and the bins

    private static void hopperOf60() {
        CoinSorter x = Check.machine(TYPES + "bin 0 100;bin 1 100;");
        for (int i = 1; i <= 60; i++) {
            Check.due("insert", x.insert(i % 7 == 0 ? 1500 : 2000, 1000), i);
        }
        Check.due("the 61st", x.insert(1500, 1000), FULL);
        for (int i = 1; i <= 60; i++) {
            Check.due("in the order of the inserts", x.step(), i % 7 == 0 ? 0 : 1);
        }
        Check.due("hopperSize", x.hopperSize(), 0);
    }

    private static void loopOfCapacity() {
        for (int capacity : new int[] {0, 1, 2, 19, 20}) {
            CoinSorter x = Check.machine(TYPES + "bin 0 1;bin 1 1;loop " + capacity + ";");
            x.insert(1500, 1000);
            x.insert(2000, 1000);
            for (int i = 0; i < capacity + 2; i++) {
                x.insert(i % 3 == 0 ? 2000 : 1500, 1000);
            }
            Check.due("run", x.run(100), 2 + capacity);
            Check.due("loopSize", x.loopSize(), capacity);
            Check.due("hopperSize", x.hopperSize(), 2);
            for (int i = 0; i < capacity; i++) {
                Check.due("loopType", x.loopType(i), i % 3 == 0 ? 1 : 0);
            }
        }
        CoinSorter y = Check.machine(TYPES + "bin 0 1;bin 1 1;");
        Check.insert(y, 2, 1500, 1000);
        y.run(2);
        y.calibrate(1, 1500, 1000);
        Check.due("the type is known, whatever the offsets", y.loopType(0), 0);
        y.changeBag(0);
        Check.due("it goes to the bin of that type", y.step(), 0);
    }

    private static void fullBin() {
        CoinSorter x = Check.machine(TYPES + "bin 0 1;bin 1 60;loop 20;");
        Check.insert(x, 60, 2000, 1000);
        Check.due("59 of 60", x.run(59), 59);
        Check.due("not yet full", x.binFor(1), 1);
        Check.due("the last", x.step(), 1);
        Check.due("binCoins", x.binCoins(1), 60);
        Check.due("full", x.binFor(1), ABSENT);
        Check.insert(x, 2, 2000, 1000);
        Check.due("no more than size", x.step(), LOOP);
        Check.due("binCoins", x.binCoins(1), 60);
        Check.insert(x, 2, 1500, 1000);
        x.changeBag(1);
        Check.due("run", x.run(9), 4);
        Check.due("a bag of one coin", x.binCoins(0), 1);
        CoinSorter y = Check.machine(TYPES + "bin 0 100;");
        Check.insert(y, 60, 1500, 1000);
        y.run(60);
        Check.insert(y, 41, 1500, 1000);
        Check.due("40 more to the bin, one to the loop", y.run(100), 41);
        Check.due("the greatest bag", y.binCoins(0), 100);
        Check.due("loopSize", y.loopSize(), 1);
    }

    private static void fewestCoins() {
        CoinSorter x = Check.machine(TYPES + "bin 0 4;bin 1 1;bin 0 3;bin 0 9;");
        Check.insert(x, 16, 1500, 1000);
        for (int bin : new int[] {2, 2, 2, 0, 0, 0, 0, 3, 3, 3, 3, 3, 3, 3, 3, 3}) {
            Check.due("binFor", x.binFor(0), bin);
            Check.due("step", x.step(), bin);
        }
        Check.due("all are full", x.binFor(0), ABSENT);
        Check.due("a bin of another type", x.binFor(1), 1);
        x.changeBag(3);
        x.changeBag(0);
        Check.due("a bin that is full does not count", x.binFor(0), 0);
    }

    private static void equalBins() {
        CoinSorter x = Check.machine(TYPES + "bin 1 9;bin 0 5;bin 0 5;bin 0 2;");
        Check.due("the smallest", x.binFor(0), 3);
        Check.insert(x, 2, 1500, 1000);
        x.run(2);
        Check.due("of two with five", x.binFor(0), 1);
        Check.insert(x, 5, 1500, 1000);
        x.run(5);
        Check.due("the other", x.binFor(0), 2);
        x.changeBag(1);
        Check.due("equals again", x.binFor(0), 1);
        x.insert(1500, 1000);
        x.step();
        x.changeBag(3);
        Check.due("two coins against four", x.binFor(0), 3);
        CoinSorter y = Check.machine(TYPES + "bin 0 4;bin 0 2;bin 0 3;");
        Check.insert(y, 9, 1500, 1000);
        y.run(9);
        y.dispense(6);
        Check.due("four, two and none are needed", y.binFor(0), 1);
        CoinSorter z = Check.machine(TYPES + "bin 0 2;bin 0 3;");
        Check.insert(z, 3, 1500, 1000);
        z.run(3);
        z.dispense(2);
        Check.due("two are needed of both", z.binFor(0), 0);
    }

    // ---- steps

    private static void noStepIfJammed() {
        CoinSorter x = Check.machine(TYPES + "bin 0 1;gate 2000;");
        Check.insert(x, 2, 1500, 1000);
        x.insert(2001, 1000);
        x.insert(1500, 1000);
        Check.due("run", x.run(100), 3);
        Check.due("isJammed", x.isJammed(), true);
        x.changeBag(0);
        Check.due("the loop's coin has room", x.binFor(0), 0);
        Check.due("step", x.step(), ABSENT);
        Check.due("run", x.run(100), 0);
        Check.due("loopSize", x.loopSize(), 1);
        Check.due("hopperSize", x.hopperSize(), 1);
        x.clearJam();
        Check.due("step", x.step(), 0);
    }

    private static void loopFirst() {
        CoinSorter x = Check.machine(TYPES + "bin 0 1;bin 1 1;bin 2 1;");
        for (int diameter : new int[] {1500, 2000, 2500, 2500, 1500, 2000, 1500, 2500, 1600}) {
            x.insert(diameter, 1000);
        }
        Check.due("run", x.run(8), 8);
        x.changeBag(0);
        x.changeBag(1);
        Check.due("the oldest that has room", x.step(), 0);
        Check.due("then the next that has room", x.step(), 1);
        Check.due("loopType(0)", x.loopType(0), 2);
        Check.due("loopType(1)", x.loopType(1), 0);
        Check.due("loopType(2)", x.loopType(2), 2);
        Check.due("none has room: the hopper", x.step(), UNKNOWN);
        x.changeBag(2);
        Check.due("with an empty hopper", x.step(), 2);
        Check.due("its bin is full again", x.step(), ABSENT);
        Check.due("loopSize", x.loopSize(), 2);
    }

    private static void emptyHopper() {
        Check.due("a new object", new CoinSorter().step(), ABSENT);
        CoinSorter x = Check.machine(TYPES + "bin 0 1;");
        Check.due("no coin yet", x.step(), ABSENT);
        Check.insert(x, 2, 1500, 1000);
        x.run(2);
        Check.due("one in the loop, without a bin", x.step(), ABSENT);
        Check.due("not stopped", x.isStopped(), false);
        x.insert(100, 1000);
        Check.due("one in the hopper", x.step(), UNKNOWN);
    }

    private static void oldestIsNext() {
        CoinSorter x = Check.machine(TYPES + "bin 0 9;bin 1 9;bin 2 9;");
        for (int diameter : new int[] {2500, 1500, 2000}) {
            x.insert(diameter, 1000);
        }
        Check.due("the first", x.step(), 2);
        x.insert(2500, 1000);
        Check.due("the second", x.step(), 0);
        Check.due("the third", x.step(), 1);
        Check.due("the last", x.step(), 2);
    }

    private static void stuck() {
        CoinSorter x = Check.machine(TYPES + "bin 2 9;gate 2500;");
        x.insert(2500, 1000);
        x.insert(2501, 1000);
        Check.due("as wide as the gate", x.step(), 0);
        Check.due("wider", x.step(), JAM);
        Check.due("isJammed", x.isJammed(), true);
        Check.due("hopperSize", x.hopperSize(), 0);
        x.clearJam();
        x.calibrate(2, 2400, 1000);
        x.insert(2401, 1000);
        Check.due("corrected it is wider than the gate", x.step(), 0);
        x.calibrate(2, 2600, 1000);
        x.insert(2501, 1000);
        Check.due("corrected it is not", x.step(), JAM);
        CoinSorter y = Check.machine("type 1 2000 50 1000 100;fake 3000 50 1000 100;bin 0 1;gate 1999;loop 0;");
        y.insert(3000, 1000);
        Check.due("the gate comes before the verdict", y.step(), JAM);
        y.clearJam();
        y.insert(1999, 1000);
        y.insert(2000, 1000);
        y.step();
        Check.due("and before the loop", y.step(), JAM);
    }

    private static void rejects() {
        CoinSorter x = Check.machine("type 1 1500 100 1000 100;type 2 1600 100 1000 100;type 3 2500 50 1000 100;"
            + "fake 3000 50 1000 100;bin 0 1;bin 1 1;loop 0;");
        int[] diameters = {1550, 3000, 3500, 2500};
        int[] outcomes = {UNSURE, COUNTERFEIT, UNKNOWN, UNKNOWN};
        for (int i = 0; i < 4; i++) {
            x.insert(diameters[i], 1000);
            Check.due("step", x.step(), outcomes[i]);
            Check.due("it has left the hopper", x.hopperSize(), 0);
            Check.due("record", x.record(i), outcomes[i]);
        }
        Check.due("UNSURE", x.rejected(UNSURE), 1);
        Check.due("COUNTERFEIT", x.rejected(COUNTERFEIT), 1);
        Check.due("UNKNOWN, with the type that has no bin", x.rejected(UNKNOWN), 2);
        Check.due("nothing in the loop", x.loopSize(), 0);
        Check.due("without any bin", withoutBins(), UNKNOWN);
    }

    private static int withoutBins() {
        CoinSorter x = Check.machine(TYPES);
        x.insert(1500, 1000);
        return x.step();
    }

    private static void toTheLoop() {
        CoinSorter x = Check.machine(TYPES + "bin 0 1;bin 1 1;bin 0 1;");
        Check.insert(x, 2, 2000, 1000);
        Check.insert(x, 3, 1500, 1000);
        int[] outcomes = {1, LOOP, 0, 2, LOOP};
        for (int outcome : outcomes) {
            Check.due("step", x.step(), outcome);
        }
        Check.due("loopType(0)", x.loopType(0), 1);
        Check.due("the end of the loop", x.loopType(1), 0);
        Check.due("loopType(2)", x.loopType(2), INVALID);
        CoinSorter y = Check.machine(TYPES + "bin 0 1;");
        y.insert(1500, 1000);
        for (int[] coin : new int[][] {{1450, 900}, {1450, 1100}, {1550, 900}, {1550, 1100}}) {
            y.insert(coin[0], coin[1]);
        }
        y.run(5);
        for (int position = 0; position < 4; position++) {
            Check.due("a coin at both tolerances", y.loopType(position), 0);
        }
    }

    private static void staysInTheHopper() {
        CoinSorter x = Check.machine(TYPES + "bin 0 1;bin 1 1;loop 2;");
        Check.insert(x, 3, 1500, 1000);
        x.insert(1510, 1010);
        x.insert(2000, 1000);
        Check.due("run", x.run(100), 3);
        Check.due("step", x.step(), ABSENT);
        Check.due("it stays", x.hopperSize(), 2);
        Check.due("isStopped", x.isStopped(), true);
        Check.due("another's room does not help", x.binFor(1), 1);
        Check.due("stepCount", x.stepCount(), 3);
        x.changeBag(0);
        Check.due("not stopped", x.isStopped(), false);
        Check.due("the loop's coin", x.step(), 0);
        Check.due("then there is room in the loop", x.step(), LOOP);
        Check.due("the one behind it", x.step(), 1);
    }

    private static void latest40() {
        CoinSorter x = Check.machine(TYPES + "bin 0 100;");
        for (int i = 0; i < 60; i++) {
            x.insert(i == 0 || i == 20 ? 100 : 1500, 1000);
        }
        x.run(40);
        Check.due("40 steps: the first is kept", x.record(0), UNKNOWN);
        Check.due("40 steps: the last", x.record(39), 0);
        x.step();
        Check.due("41 steps: the first is not", x.record(0), 0);
        Check.due("41 steps: the 21st", x.record(19), UNKNOWN);
        Check.due("41 steps: there are 40", x.record(40), INVALID);
        x.run(100);
        Check.due("60 steps: the 21st is the oldest", x.record(0), UNKNOWN);
        Check.due("60 steps: the last", x.record(39), 0);
        x.insert(100, 100);
        x.step();
        Check.due("61 steps: the last", x.record(39), UNKNOWN);
        Check.due("61 steps: the oldest", x.record(0), 0);
    }

    // ---- promises 10 and 11

    private static void scoreDiameters() {
        CoinSorter x = Check.machine("type 1 1000 200 1000 100;type 1 4000 200 1000 100;");
        Check.due("the least", x.score(0, 1, 1000), ABSENT);
        Check.due("the greatest", x.score(1, 4000, 1000), 0);
        Check.thrown("below", IllegalArgumentException.class, () -> x.score(0, 0, 1000));
        Check.thrown("above", IllegalArgumentException.class, () -> x.score(1, 4001, 1000));
    }

    private static void scoreAlloys() {
        CoinSorter x = Check.machine("type 1 2000 200 0 100;type 1 2000 200 9999 100;");
        Check.due("the least", x.score(0, 2000, 0), 0);
        Check.due("the greatest", x.score(1, 2000, 9999), 0);
        Check.thrown("below", IllegalArgumentException.class, () -> x.score(0, 2000, -1));
        Check.thrown("above", IllegalArgumentException.class, () -> x.score(1, 2000, 10000));
    }

    private static void scoreAbsent() {
        CoinSorter x = Check.machine("type 1 2000 30 1000 70;");
        Check.due("the diameter is off by one", x.score(0, 2031, 1000), ABSENT);
        Check.due("the alloy is off by one", x.score(0, 2000, 1071), ABSENT);
        Check.due("both are off by one", x.score(0, 1969, 929), ABSENT);
        Check.due("at both tolerances", x.score(0, 1970, 930), 2000);
        Check.due("far off", x.score(0, 4000, 9999), ABSENT);
        x.calibrate(0, 2001, 1000);
        Check.due("with the offsets as they are now", x.score(0, 2031, 1000), 1000);
        Check.due("with the offsets as they are now", x.score(0, 1970, 1000), ABSENT);
    }

    private static void scoreNoType() {
        CoinSorter x = Check.machine(TYPES + "fake 2000 50 1000 100;");
        for (int type : new int[] {-1, 3, 4, 8, MIN, MAX}) {
            Check.thrown("score of type " + type, IndexOutOfBoundsException.class, () -> x.score(type, 2000, 1000));
            Check.thrown("and a wrong diameter", IndexOutOfBoundsException.class, () -> x.score(type, 0, 1000));
            Check.thrown("and a wrong alloy", IndexOutOfBoundsException.class, () -> x.score(type, 2000, -1));
        }
        Check.due("the last type", x.score(2, 2500, 1000), 0);
        CoinSorter y = new CoinSorter();
        Check.thrown("without types", IndexOutOfBoundsException.class, () -> y.score(0, 2000, 1000));
        leaves("score without such a type", IndexOutOfBoundsException.class, z -> z.score(4, 2000, 1000));
    }

    private static void scoreOutOfRange() {
        CoinSorter x = Check.machine(TYPES);
        for (int diameter : NO_DIAMETER) {
            Check.thrown("diameter " + diameter, IllegalArgumentException.class, () -> x.score(2, diameter, 0));
        }
        for (int alloy : NO_ALLOY) {
            Check.thrown("alloy " + alloy, IllegalArgumentException.class, () -> x.score(2, 1, alloy));
        }
        Check.thrown("both", IllegalArgumentException.class, () -> x.score(0, 0, -1));
        leaves("score out of range", IllegalArgumentException.class, z -> z.score(0, 4001, 1000));
    }

    /** The call throws, and leaves all as it is. */
    private static void leaves(String name, Class<? extends RuntimeException> due, Consumer<CoinSorter> call) {
        Twins.same(name, Machines::busy, x -> Check.thrown(name, due, () -> call.accept(x)));
    }

    private static void classifyDiameters() {
        CoinSorter x = Check.machine("type 1 4000 200 1000 100;");
        Check.due("the least", x.classify(1, 1000), UNKNOWN);
        Check.due("the greatest", x.classify(4000, 1000), 0);
        Check.thrown("below", IllegalArgumentException.class, () -> x.classify(0, 1000));
        Check.thrown("above", IllegalArgumentException.class, () -> x.classify(4001, 1000));
    }

    private static void classifyAlloys() {
        CoinSorter x = Check.machine("type 1 2000 200 0 100;type 1 2000 200 9999 100;");
        Check.due("the least", x.classify(2000, 0), 0);
        Check.due("the greatest", x.classify(2000, 9999), 1);
        Check.thrown("below", IllegalArgumentException.class, () -> x.classify(2000, -1));
        Check.thrown("above", IllegalArgumentException.class, () -> x.classify(2000, 10000));
    }

    private static void verdicts() {
        CoinSorter x = Check.machine("type 1 2000 50 1000 100;".repeat(2) + "type 1 3000 50 1000 100;fake 3500 50 1000 100;margin 1;");
        Check.due("a type, although it has no bin", x.classify(3000, 1000), 2);
        Check.due("UNSURE", x.classify(2000, 1000), UNSURE);
        Check.due("COUNTERFEIT", x.classify(3500, 1000), COUNTERFEIT);
        Check.due("UNKNOWN", x.classify(1, 0), UNKNOWN);
        CoinSorter y = Check.machine("gate 1000;type 1 3000 50 1000 100;");
        Check.due("the gate is not asked", y.classify(3000, 1000), 0);
    }

    private static void classifyOutOfRange() {
        CoinSorter x = Check.machine(TYPES);
        for (int diameter : NO_DIAMETER) {
            Check.thrown("diameter " + diameter, IllegalArgumentException.class, () -> x.classify(diameter, 0));
        }
        for (int alloy : NO_ALLOY) {
            Check.thrown("alloy " + alloy, IllegalArgumentException.class, () -> x.classify(1, alloy));
        }
        Check.thrown("both", IllegalArgumentException.class, () -> x.classify(4001, 10000));
        CoinSorter y = new CoinSorter();
        Check.thrown("without types", IllegalArgumentException.class, () -> y.classify(0, 0));
        leaves("classify out of range", IllegalArgumentException.class, z -> z.classify(1, -1));
    }

    // ---- promises 12 to 14

    private static void diameterOffsets() {
        CoinSorter x = Check.machine("type 1 1000 200 0 500;type 1 4000 200 9999 500;");
        Check.due("at first", x.diameterOffset(), 0);
        x.calibrate(0, 4000, 0);
        Check.due("the lowest", x.diameterOffset(), -3000);
        x.calibrate(1, 1, 0);
        Check.due("the highest", x.diameterOffset(), 3999);
        Check.load(x, TYPES);
        Check.due("after parse", x.diameterOffset(), 0);
    }

    private static void alloyOffsets() {
        CoinSorter x = Check.machine("type 1 1000 200 0 500;type 1 4000 200 9999 500;");
        Check.due("at first", x.alloyOffset(), 0);
        x.calibrate(0, 1, 9999);
        Check.due("the lowest", x.alloyOffset(), -9999);
        x.calibrate(1, 1, 0);
        Check.due("the highest", x.alloyOffset(), 9999);
        Check.load(x, TYPES);
        Check.due("after parse", x.alloyOffset(), 0);
    }

    private static void marginEnds() {
        Check.due("of a new object", new CoinSorter().margin(), 100);
        Check.due("the least", Check.machine("margin 0;").margin(), 0);
        Check.due("the greatest", Check.machine("margin 2000;").margin(), 2000);
        Check.due("without the statement", Check.machine("loop 1;").margin(), 100);
        CoinSorter x = Check.machine("margin 7;");
        x.setMargin(2000);
        Check.due("after setMargin", x.margin(), 2000);
        x.setMargin(0);
        Check.due("after setMargin", x.margin(), 0);
    }

    // ---- promises 15 to 25

    private static void hopperSizes() {
        CoinSorter x = Check.machine(TYPES + "gate 2000;");
        Check.due("empty", x.hopperSize(), 0);
        Check.insert(x, 60, 1500, 1000);
        Check.due("full", x.hopperSize(), 60);
        x.insert(1500, 1000);
        Check.due("still full", x.hopperSize(), 60);
        x.run(60);
        Check.due("empty again", x.hopperSize(), 0);
        x.insert(2001, 1000);
        x.step();
        Check.due("a stuck coin is not in the hopper", x.hopperSize(), 0);
    }

    private static void loopSizes() {
        CoinSorter x = Check.machine(TYPES + "bin 0 1;loop 20;");
        Check.due("empty", x.loopSize(), 0);
        Check.insert(x, 30, 1500, 1000);
        for (int i = 0; i <= 20; i++) {
            x.step();
            Check.due("loopSize", x.loopSize(), i);
        }
        x.step();
        Check.due("full", x.loopSize(), 20);
        x.changeBag(0);
        x.step();
        Check.due("one less", x.loopSize(), 19);
    }

    private static void loopPositions() {
        CoinSorter x = Check.machine(TYPES + "bin 0 1;bin 1 1;bin 2 1;");
        for (int diameter : new int[] {1500, 2000, 2500, 2500, 1500, 2000}) {
            x.insert(diameter, 1000);
        }
        x.run(6);
        Check.due("the oldest", x.loopType(0), 2);
        Check.due("the next", x.loopType(1), 0);
        Check.due("the latest", x.loopType(2), 1);
        x.changeBag(2);
        x.step();
        Check.due("the oldest left", x.loopType(0), 0);
    }

    private static void noPosition() {
        CoinSorter x = Check.machine(TYPES + "bin 0 1;loop 20;");
        Check.due("an empty loop", x.loopType(0), INVALID);
        Check.insert(x, 30, 1500, 1000);
        for (int coins = 0; coins <= 20; coins++) {
            x.step();
            Check.due("the last", x.loopType(coins - 1), coins > 0 ? 0 : INVALID);
            Check.due("after the last", x.loopType(coins), INVALID);
        }
        for (int wrong : new int[] {-1, 20, 21, MIN, MAX}) {
            Check.due("loopType " + wrong, x.loopType(wrong), INVALID);
        }
    }

    private static void jammed() {
        Check.due("a new object", new CoinSorter().isJammed(), false);
        CoinSorter x = Check.machine("gate 1000;");
        x.insert(1000, 0);
        x.insert(1001, 0);
        x.step();
        Check.due("after a coin that passes", x.isJammed(), false);
        x.step();
        Check.due("after one that does not", x.isJammed(), true);
        x.undo();
        Check.due("undone", x.isJammed(), false);
        x.step();
        x.clearJam();
        Check.due("cleared", x.isJammed(), false);
        x.undo();
        Check.due("the clearing undone", x.isJammed(), true);
    }

    private static void jammedIsNotStopped() {
        CoinSorter x = Check.machine(TYPES + "bin 0 1;loop 1;gate 2000;");
        Check.insert(x, 2, 1500, 1000);
        x.insert(2001, 1000);
        x.insert(1500, 1000);
        x.run(3);
        Check.due("isJammed", x.isJammed(), true);
        Check.due("jammed, and the next coin has no room", x.isStopped(), false);
        x.clearJam();
        Check.due("no longer jammed", x.isStopped(), true);
    }

    private static void stopped() {
        Check.due("a new object", new CoinSorter().isStopped(), false);
        CoinSorter x = Check.machine(TYPES + "bin 0 1;bin 1 1;loop 1;gate 3000;");
        Check.insert(x, 2, 1500, 1000);
        x.run(2);
        Check.due("the hopper is empty", x.isStopped(), false);
        for (int diameter : new int[] {3500, 100, 2500, 2000}) {
            x.insert(diameter, 1000);
            Check.due("the next coin can move: " + diameter, x.isStopped(), false);
            x.undo();
        }
        x.insert(1500, 1000);
        Check.due("the next coin cannot move", x.isStopped(), true);
        Check.due("looking changes nothing", x.isStopped(), true);
        x.changeBag(0);
        Check.due("the loop's coin can move", x.isStopped(), false);
        CoinSorter y = Check.machine(TYPES + "bin 0 1;loop 0;");
        Check.insert(y, 2, 1500, 1000);
        Check.due("the bin has room", y.isStopped(), false);
        y.step();
        Check.due("no room, and no loop", y.isStopped(), true);
    }

    private static void binCoinsNoBin() {
        for (int bins = 0; bins <= 8; bins++) {
            CoinSorter x = Check.machine(TYPES + "bin 1 7;".repeat(bins));
            Check.due("binCoins of the first", x.binCoins(0), bins > 0 ? 0 : INVALID);
            Check.due("binCoins of the last", x.binCoins(bins - 1), bins > 0 ? 0 : INVALID);
            for (int wrong : new int[] {-1, bins, MIN, MAX}) {
                Check.due("binCoins " + wrong, x.binCoins(wrong), INVALID);
            }
        }
        Check.due("binCoins of a new object", new CoinSorter().binCoins(0), INVALID);
    }

    private static void binForAbsent() {
        CoinSorter x = Check.machine(TYPES + "bin 0 1;bin 0 1;");
        Check.due("no bin has the type", x.binFor(1), ABSENT);
        Check.insert(x, 2, 1500, 1000);
        x.step();
        Check.due("one is full", x.binFor(0), 1);
        x.step();
        Check.due("both are full", x.binFor(0), ABSENT);
        x.dispense(1);
        Check.due("one is not", x.binFor(0), 0);
        Check.due("a type without any bin", Check.machine(TYPES).binFor(2), ABSENT);
    }

    private static void binForNoType() {
        for (int types = 0; types <= 8; types++) {
            CoinSorter x = Check.machine("type 1 1500 50 1000 100;".repeat(types));
            Check.due("binFor the last", x.binFor(types - 1), types > 0 ? ABSENT : INVALID);
            for (int wrong : new int[] {-1, types, MIN, MAX}) {
                Check.due("binFor " + wrong, x.binFor(wrong), INVALID);
            }
        }
        CoinSorter y = Check.machine("type 1 1500 50 1000 100;bin 0 1;bin 0 2;");
        Check.due("the number of a bin is no type", y.binFor(1), INVALID);
    }

    private static void rejectedCounts() {
        CoinSorter x = Check.machine("type 1 1500 50 1000 100;".repeat(2) + "fake 3000 50 1000 100;gate 3500;");
        int[] diameters = {1500, 3000, 2000, 3501};
        for (int round = 1; round <= 3; round++) {
            for (int i = 0; i < 4; i++) {
                Check.insert(x, i + 1, diameters[i], 1000);
                for (int coin = 0; coin <= i; coin++) {
                    x.step();
                    x.clearJam();
                }
            }
            for (int i = 0; i < 4; i++) {
                Check.due("rejected " + (UNSURE + i), x.rejected(UNSURE + i), round * (i + 1));
            }
        }
    }

    private static void rejectedJam() {
        CoinSorter x = Check.machine("gate 1000;");
        x.insert(1001, 0);
        x.step();
        Check.due("still in the gate", x.rejected(JAM), 0);
        x.clearJam();
        Check.due("removed", x.rejected(JAM), 1);
        x.clearJam();
        Check.due("only once", x.rejected(JAM), 1);
        Check.due("no other reason", x.rejected(UNKNOWN), 0);
    }

    private static void rejectedOther() {
        CoinSorter x = Machines.busy();
        for (int outcome : new int[] {0, 1, 3, 8, 19, LOOP, 25, INVALID, ABSENT, FULL, MIN, MAX}) {
            Check.due("rejected " + outcome, x.rejected(outcome), INVALID);
        }
    }

    private static void stepCounts() {
        CoinSorter x = Check.machine(TYPES + "bin 0 1;loop 1;gate 3000;");
        Check.due("none", x.stepCount(), 0);
        x.step();
        Check.due("a step that is not possible", x.stepCount(), 0);
        Check.insert(x, 3, 1500, 1000);
        x.run(100);
        Check.due("a bin and the loop", x.stepCount(), 2);
        x.changeBag(0);
        x.run(100);
        Check.due("from the loop, and to the loop", x.stepCount(), 4);
        x.insert(3001, 1000);
        x.step();
        Check.due("a jam is a step", x.stepCount(), 5);
        x.clearJam();
        Check.due("clearJam is none", x.stepCount(), 5);
        x.undo();
        x.undo();
        Check.due("undone", x.stepCount(), 4);
        Check.insert(x, 50, 100, 1000);
        x.run(100);
        x.clearJam();
        x.run(100);
        Check.due("more than the records", x.stepCount(), 55);
    }

    private static void recordIndexes() {
        CoinSorter x = Check.machine(TYPES + "bin 0 1;bin 1 1;");
        for (int diameter : new int[] {2000, 1500, 2000, 100}) {
            x.insert(diameter, 1000);
        }
        x.run(4);
        int[] outcomes = {1, 0, LOOP, UNKNOWN};
        for (int i = 0; i < 4; i++) {
            Check.due("record " + i, x.record(i), outcomes[i]);
        }
        x.undo();
        x.run(2);
        Check.due("after undo: the oldest", x.record(0), 1);
        Check.due("after undo: the latest", x.record(1), 0);
        Check.due("after undo: none", x.record(2), INVALID);
    }

    private static void noRecord() {
        CoinSorter x = Check.machine("");
        Check.due("no record yet", x.record(0), INVALID);
        Check.insert(x, 60, 100, 1000);
        for (int steps = 1; steps <= 45; steps++) {
            x.step();
            Check.due("the last", x.record(Math.min(steps, 40) - 1), UNKNOWN);
            Check.due("after the last", x.record(Math.min(steps, 40)), INVALID);
        }
        for (int wrong : new int[] {-1, 40, 41, 44, MIN, MAX}) {
            Check.due("record " + wrong, x.record(wrong), INVALID);
        }
    }

    private static void binValues() {
        Check.due("no bins", new CoinSorter().binValue(), 0);
        Check.due("empty bins", Check.machine(TYPES + "bin 0 1;bin 2 1;").binValue(), 0);
        CoinSorter x = Check.machine("type 500 2000 50 1000 100;type 499 1500 50 1000 100;bin 0 100;bin 0 100;bin 1 1;");
        for (int round = 0; round < 4; round++) {
            Check.insert(x, 50, 2000, 1000);
            x.run(100);
        }
        Check.due("200 coins of 500", x.binValue(), 100000);
        Check.insert(x, 2, 1500, 1000);
        Check.due("the hopper does not count", x.binValue(), 100000);
        x.run(2);
        Check.due("nor does the loop", x.binValue(), 100499);
        x.changeBag(0);
        Check.due("nor do sealed bags", x.binValue(), 50499);
    }

    // ---- promises 36 and 37

    private static void exactly() {
        CoinSorter x = Check.machine("type 1 1000 1 0 1;type 1 4000 1 9999 1;");
        int[][] coins = {{1, 0}, {1, 9999}, {4000, 0}, {4000, 9999}, {1000, 0}, {1234, 5678}};
        for (int[] coin : coins) {
            for (int type = 0; type < 2; type++) {
                Check.due("calibrate", x.calibrate(type, coin[0], coin[1]), true);
                Check.due("score", x.score(type, coin[0], coin[1]), 0);
                Check.due("diameterOffset", x.diameterOffset(), (type == 0 ? 1000 : 4000) - coin[0]);
                Check.due("alloyOffset", x.alloyOffset(), (type == 0 ? 0 : 9999) - coin[1]);
            }
        }
    }

    private static void calibrateDiameters() {
        CoinSorter x = Check.machine(TYPES);
        Check.due("the least", x.calibrate(0, 1, 1000), true);
        Check.due("the greatest", x.calibrate(0, 4000, 1000), true);
        Check.due("below", x.calibrate(0, 0, 1000), false);
        Check.due("above", x.calibrate(0, 4001, 1000), false);
    }

    private static void calibrateAlloys() {
        CoinSorter x = Check.machine(TYPES);
        Check.due("the least", x.calibrate(0, 1500, 0), true);
        Check.due("the greatest", x.calibrate(0, 1500, 9999), true);
        Check.due("below", x.calibrate(0, 1500, -1), false);
        Check.due("above", x.calibrate(0, 1500, 10000), false);
    }

    private static void calibrateRefuses() {
        for (int type : new int[] {-1, 4, 8, MIN, MAX}) {
            refused("calibrate type " + type, x -> x.calibrate(type, 1500, 1000) ? 1 : 0, 0);
        }
        for (int diameter : NO_DIAMETER) {
            refused("calibrate diameter " + diameter, x -> x.calibrate(0, diameter, 1000) ? 1 : 0, 0);
        }
        for (int alloy : NO_ALLOY) {
            refused("calibrate alloy " + alloy, x -> x.calibrate(0, 1500, alloy) ? 1 : 0, 0);
        }
        Check.due("without types", new CoinSorter().calibrate(0, 1500, 1000), false);
        Check.due("the last type", Machines.busy().calibrate(3, 1500, 1000), true);
    }

    private interface Call {
        int answer(CoinSorter x);
    }

    /** A busy machine answers so, and is as it was. */
    private static void refused(String name, Call call, int due) {
        Twins.same(name, Machines::busy, x -> Check.due(name, call.answer(x), due));
    }

    private static void setMarginEnds() {
        CoinSorter x = new CoinSorter();
        Check.due("the least", x.setMargin(0), 100);
        Check.due("margin", x.margin(), 0);
        Check.due("the greatest", x.setMargin(2000), 0);
        Check.due("margin", x.margin(), 2000);
        Check.due("below", x.setMargin(-1), INVALID);
        Check.due("above", x.setMargin(2001), INVALID);
        Check.due("margin", x.margin(), 2000);
    }

    private static void previousMargin() {
        CoinSorter x = Check.machine("margin 0;");
        Check.due("of the text", x.setMargin(7), 0);
        Check.due("the one before", x.setMargin(2000), 7);
        x.undo();
        Check.due("after undo", x.setMargin(9), 7);
    }

    private static void setMarginRefuses() {
        for (int margin : new int[] {-1, 2001, -100, MIN, MAX}) {
            refused("setMargin " + margin, x -> x.setMargin(margin), INVALID);
        }
    }

    private static void sameMargin() {
        CoinSorter x = new CoinSorter();
        Check.due("the same", x.setMargin(100), 100);
        Check.due("the same again", x.setMargin(100), 100);
        Check.due("undo", x.undo(), 1);
        Check.due("undo", x.undo(), 0);
        Check.due("undo", x.undo(), ABSENT);
    }

    // ---- promises 38 and 39

    private static void insertDiameters() {
        CoinSorter x = Check.machine("gate 1000;type 1 1000 1 0 1;bin 0 9;");
        Check.due("the least", x.insert(1, 0), 1);
        Check.due("the greatest", x.insert(4000, 0), 2);
        Check.due("below", x.insert(0, 0), INVALID);
        Check.due("above", x.insert(4001, 0), INVALID);
        x.calibrate(0, 1, 0);
        Check.due("the least is kept", x.step(), 0);
        Check.due("the greatest is kept", x.step(), JAM);
    }

    private static void insertAlloys() {
        CoinSorter x = Check.machine("type 1 2000 1 0 1;type 1 2000 1 9999 1;bin 0 9;bin 1 9;");
        Check.due("the least", x.insert(1999, 0), 1);
        Check.due("the greatest", x.insert(2001, 9999), 2);
        Check.due("below", x.insert(2000, -1), INVALID);
        Check.due("above", x.insert(2000, 10000), INVALID);
        Check.due("the least is kept", x.step(), 0);
        Check.due("the greatest is kept", x.step(), 1);
    }

    private static void insertRefuses() {
        for (int diameter : NO_DIAMETER) {
            refused("insert diameter " + diameter, x -> x.insert(diameter, 1000), INVALID);
            Check.due("first, with a full hopper", Machines.fullHopper().insert(diameter, 1000), INVALID);
        }
        for (int alloy : NO_ALLOY) {
            refused("insert alloy " + alloy, x -> x.insert(1500, alloy), INVALID);
            Check.due("first, with a full hopper", Machines.fullHopper().insert(1500, alloy), INVALID);
        }
    }

    private static void insertFull() {
        CoinSorter x = new CoinSorter();
        Check.insert(x, 59, 1, 0);
        Check.due("the 60th", x.insert(1, 0), 60);
        Check.due("the 61st", x.insert(1, 0), FULL);
        x.step();
        Check.due("after a step", x.insert(1, 0), 60);
        Twins.same("insert into a full hopper", Machines::fullHopper, y -> Check.due("insert", y.insert(1500, 1000), FULL));
    }

    private static void outcomes() {
        StringBuilder text = new StringBuilder("type 1 1500 50 1000 100;");
        for (int bin = 0; bin < 8; bin++) {
            text.append("bin 0 ").append(bin + 1).append(';');
        }
        CoinSorter x = Check.machine(text + "loop 1;");
        Check.insert(x, 37, 1500, 1000);
        for (int bin = 0; bin < 8; bin++) {
            for (int coin = 0; coin <= bin; coin++) {
                Check.due("step", x.step(), bin);
            }
        }
        Check.due("LOOP", x.step(), LOOP);
        x.changeBag(7);
        Check.due("from the loop to the last bin", x.step(), 7);
        CoinSorter y = Check.machine("type 1 1500 50 1000 100;".repeat(2) + "fake 3000 50 1000 100;gate 3500;");
        int[] diameters = {1500, 3000, 2000, 3501};
        for (int i = 0; i < 4; i++) {
            y.insert(diameters[i], 1000);
            Check.due("step", y.step(), UNSURE + i);
        }
    }

    private static void stepAbsent() {
        Twins.same("step while jammed", Machines::jammed, x -> Check.due("step", x.step(), ABSENT));
        Twins.same("step with an empty hopper", Machines::idle, x -> Check.due("step", x.step(), ABSENT));
        Twins.same("step while stopped", Machines::stopped, x -> Check.due("step", x.step(), ABSENT));
        Twins.same("step of a new object", CoinSorter::new, x -> Check.due("step", x.step(), ABSENT));
    }

    // ---- promises 40 and 41

    private static void runUntil() {
        CoinSorter x = Check.machine(TYPES + "bin 0 2;loop 1;gate 2500;");
        Check.insert(x, 5, 1500, 1000);
        Check.due("n steps", x.run(2), 2);
        Check.due("no more than n", x.binCoins(0), 2);
        Check.due("loopSize", x.loopSize(), 0);
        Check.due("until stopped", x.run(2), 1);
        Check.due("isStopped", x.isStopped(), true);
        x.changeBag(0);
        Check.due("until the hopper is empty", x.run(9), 3);
        Check.due("hopperSize", x.hopperSize(), 0);
        x.insert(100, 1000);
        x.insert(2501, 1000);
        x.insert(100, 1000);
        Check.due("until jammed", x.run(9), 2);
        Check.due("isJammed", x.isJammed(), true);
        Twins.same("a run of one is a step", Machines::busy, y -> y.run(1), CoinSorter::step);
    }

    private static void oneChange() {
        CoinSorter x = Check.machine(TYPES + "bin 0 9;");
        Check.insert(x, 5, 1500, 1000);
        x.run(5);
        Check.due("undo", x.undo(), 5);
        Check.due("all steps are undone", x.hopperSize(), 5);
        x.run(1);
        Check.due("undo of a run of one", x.undo(), 5);
        Twins.same("run while jammed is no change", Machines::jammed, y -> Check.due("run", y.run(100), 0));
        Twins.same("run with an empty hopper is no change", Machines::idle, y -> Check.due("run", y.run(1), 0));
        Twins.same("run while stopped is no change", Machines::stopped, y -> Check.due("run", y.run(50), 0));
    }

    private static void runEnds() {
        CoinSorter x = Check.machine(TYPES + "bin 0 100;");
        Check.insert(x, 60, 1500, 1000);
        Check.due("the least", x.run(1), 1);
        Check.due("the greatest", x.run(100), 59);
        Check.due("below", x.run(0), INVALID);
        Check.due("above", x.run(101), INVALID);
    }

    private static void stepsDone() {
        CoinSorter x = Check.machine(TYPES + "bin 0 20;loop 20;");
        Check.due("none", x.run(100), 0);
        Check.insert(x, 40, 1500, 1000);
        Check.due("all", x.run(40), 40);
        x.changeBag(0);
        Check.insert(x, 60, 100, 1000);
        Check.due("20 of the loop and 59 of the hopper", x.run(79), 79);
        Check.due("the last", x.run(100), 1);
        Check.due("none is left", x.run(1), 0);
        x.undo();
        x.undo();
        Check.due("20 of the loop and 60 of the hopper", x.run(100), 80);
    }

    private static void runRefuses() {
        for (int n : new int[] {0, -1, 101, MIN, MAX}) {
            refused("run " + n, x -> x.run(n), INVALID);
            Check.due("also if no step is possible", Machines.jammed().run(n), INVALID);
        }
    }

    private static void clearedJam() {
        CoinSorter x = Check.machine(TYPES + "bin 0 9;gate 2000;");
        x.insert(2001, 1000);
        x.insert(4000, 1000);
        x.insert(1500, 1000);
        x.step();
        Check.due("clearJam", x.clearJam(), true);
        Check.due("isJammed", x.isJammed(), false);
        Check.due("rejected", x.rejected(JAM), 1);
        Check.due("the coin does not come back", x.hopperSize(), 2);
        Check.due("the next jams too", x.step(), JAM);
        Check.due("clearJam", x.clearJam(), true);
        Check.due("rejected", x.rejected(JAM), 2);
        Check.due("then the last", x.step(), 0);
    }

    private static void noJam() {
        Check.due("a new object", new CoinSorter().clearJam(), false);
        refused("clearJam", x -> x.clearJam() ? 1 : 0, 0);
        Twins.same("clearJam while stopped", Machines::stopped, x -> Check.due("clearJam", x.clearJam(), false));
        Twins.same("clearJam twice", Machines::jammed, x -> {
            x.clearJam();
            Check.due("clearJam", x.clearJam(), false);
        }, CoinSorter::clearJam);
    }
}
