/** Promises 10 to 14: score, classify, the offsets and the margin; and 36 and 37, which set them. */
public final class ClassificationTest {
    public static void main(String[] args) {
        score();
        scoreThrows();
        classifyThrows();
        unknown();
        counterfeit();
        unsure();
        offsets();
        negativeCorrectedMeasurement();
        calibrateRefuses();
        margin();
        Check.end();
    }

    private static void score() {
        CoinSorter x = Check.machine("type 1 2000 30 1000 70;type 2 2000 200 1000 500;");
        Check.due("nominal", x.score(0, 2000, 1000), 0);
        Check.due("rounded up", x.score(0, 2001, 1000), 34);
        Check.due("rounded up below", x.score(0, 1999, 1000), 34);
        Check.due("both rounded up", x.score(0, 2001, 1001), 34 + 15);
        Check.due("exact division", x.score(0, 2003, 1007), 100 + 100);
        Check.due("at both tolerances", x.score(0, 2030, 1070), 2000);
        Check.due("at both tolerances below", x.score(0, 1970, 930), 2000);
        Check.due("beyond the diameter tolerance", x.score(0, 2031, 1000), CoinSorter.ABSENT);
        Check.due("below the diameter tolerance", x.score(0, 1969, 1000), CoinSorter.ABSENT);
        Check.due("beyond the alloy tolerance", x.score(0, 2000, 1071), CoinSorter.ABSENT);
        Check.due("below the alloy tolerance", x.score(0, 2000, 929), CoinSorter.ABSENT);
        Check.due("of another type", x.score(1, 2031, 1071), 155 + 142);
        Check.due("far off", x.score(0, 1, 9999), CoinSorter.ABSENT);
    }

    private static void scoreThrows() {
        CoinSorter x = Check.machine("type 1 2000 30 1000 70;type 2 2000 200 1000 500;");
        for (int type : new int[] {-1, 2, 8, Integer.MIN_VALUE, Integer.MAX_VALUE}) {
            Check.thrown("score of type " + type, IndexOutOfBoundsException.class, () -> x.score(type, 2000, 1000));
            Check.thrown("type is checked first", IndexOutOfBoundsException.class, () -> x.score(type, 0, -1));
        }
        for (int diameter : new int[] {0, 4001, -1, Integer.MIN_VALUE, Integer.MAX_VALUE}) {
            Check.thrown("score at " + diameter, IllegalArgumentException.class, () -> x.score(0, diameter, 1000));
        }
        for (int alloy : new int[] {-1, 10000, Integer.MIN_VALUE, Integer.MAX_VALUE}) {
            Check.thrown("score of alloy " + alloy, IllegalArgumentException.class, () -> x.score(0, 2000, alloy));
        }
        Check.due("lowest measurements", x.score(0, 1, 0), CoinSorter.ABSENT);
        Check.due("highest measurements", x.score(0, 4000, 9999), CoinSorter.ABSENT);
    }

    private static void classifyThrows() {
        CoinSorter x = new CoinSorter();
        for (int diameter : new int[] {0, 4001, -1, Integer.MIN_VALUE, Integer.MAX_VALUE}) {
            Check.thrown("classify at " + diameter, IllegalArgumentException.class, () -> x.classify(diameter, 0));
        }
        for (int alloy : new int[] {-1, 10000, Integer.MIN_VALUE, Integer.MAX_VALUE}) {
            Check.thrown("classify of alloy " + alloy, IllegalArgumentException.class, () -> x.classify(1, alloy));
        }
        Check.due("lowest measurements", x.classify(1, 0), CoinSorter.UNKNOWN);
        Check.due("highest measurements", x.classify(4000, 9999), CoinSorter.UNKNOWN);
    }

    private static void unknown() {
        CoinSorter x = Check.machine("type 1 2000 30 1000 70;fake 3000 30 1000 70;");
        Check.due("fits the type", x.classify(2030, 1070), 0);
        Check.due("fits nothing", x.classify(2031, 1070), CoinSorter.UNKNOWN);
        Check.due("fits nothing", x.classify(2030, 1071), CoinSorter.UNKNOWN);
        Check.due("fits no fake either", x.classify(3031, 1000), CoinSorter.UNKNOWN);
    }

    private static void counterfeit() {
        CoinSorter x = Check.machine("type 1 2000 100 1000 100;fake 2100 100 1000 100;type 1 2000 100 2000 100;margin 0;");
        Check.due("nearer the type", x.classify(2049, 1000), 0);
        Check.due("as near to the fake", x.classify(2050, 1000), CoinSorter.COUNTERFEIT);
        Check.due("nearer the fake", x.classify(2051, 1000), CoinSorter.COUNTERFEIT);
        Check.due("fits the fake alone", x.classify(2150, 1000), CoinSorter.COUNTERFEIT);
        Check.due("fits the type alone", x.classify(1950, 1000), 0);
        CoinSorter y = Check.machine("type 1 2000 100 1000 100;type 1 2010 100 1000 100;"
            + "fake 2060 100 1000 100;fake 2004 100 1000 100;");
        Check.due("before unsure; the lowest score of all fakes counts", y.classify(2005, 1000), CoinSorter.COUNTERFEIT);
        Check.due("a type is nearer than any fake, but unsure", y.classify(2001, 1000), CoinSorter.UNSURE);
    }

    private static void unsure() {
        // scores at 2000 + d: 10 d and 10 (100 - d)
        CoinSorter x = Check.machine("type 1 2000 100 1000 100;type 2 2100 100 1000 100;margin 100;");
        Check.due("the gap is the margin", x.classify(2045, 1000), 0);
        Check.due("the gap is below the margin", x.classify(2046, 1000), CoinSorter.UNSURE);
        Check.due("equal scores", x.classify(2050, 1000), CoinSorter.UNSURE);
        Check.due("the gap is below the margin", x.classify(2054, 1000), CoinSorter.UNSURE);
        Check.due("the gap is the margin", x.classify(2055, 1000), 1);
        x.setMargin(1);
        Check.due("margin 1, equal scores", x.classify(2050, 1000), CoinSorter.UNSURE);
        Check.due("margin 1, gap 20", x.classify(2051, 1000), 1);
        x.setMargin(0);
        Check.due("margin 0, equal scores: the lowest number", x.classify(2050, 1000), 0);
        x.setMargin(2000);
        Check.due("one type fits", x.classify(1999, 1000), 0);
        CoinSorter y = Check.machine("type 1 2100 100 1100 100;type 2 2000 100 1000 100;margin 2000;");
        Check.due("gap 2000", y.classify(2000, 1000), 1);
        Check.due("gap 1980", y.classify(2001, 1000), CoinSorter.UNSURE);
        CoinSorter z = Check.machine("type 1 2060 100 1000 100;type 2 2000 100 1000 100;type 3 2010 100 1000 100;");
        Check.due("the second lowest comes last", z.classify(2001, 1000), CoinSorter.UNSURE);
        CoinSorter w = Check.machine("type 1 2010 100 1000 100;type 3 2060 100 1000 100;type 2 2000 100 1000 100;margin 80;");
        Check.due("the lowest comes last", w.classify(2001, 1000), 2);
        w.setMargin(81);
        Check.due("the second lowest comes first", w.classify(2001, 1000), CoinSorter.UNSURE);
    }

    private static void offsets() {
        CoinSorter x = Check.machine("type 1 2000 30 1000 70;type 2 3000 100 5000 100;fake 2500 10 2500 10;");
        Check.due("calibrate", x.calibrate(1, 2900, 5200), true);
        Check.due("diameterOffset", x.diameterOffset(), 100);
        Check.due("alloyOffset", x.alloyOffset(), -200);
        Check.due("score with offsets", x.score(1, 2900, 5200), 0);
        Check.due("score with offsets", x.score(1, 3000, 5200), 1000);
        Check.due("score of the nominal values", x.score(1, 3000, 5000), CoinSorter.ABSENT);
        Check.due("classify with offsets", x.classify(1900, 1200), 0);
        Check.due("a fake with offsets", x.classify(2400, 2700), CoinSorter.COUNTERFEIT);
        Check.due("calibrate again", x.calibrate(1, 2950, 4950), true);
        Check.due("not added up", x.diameterOffset(), 50);
        Check.due("not added up", x.alloyOffset(), 50);
        Check.due("calibrate with type 0", x.calibrate(0, 2000, 1000), true);
        Check.due("diameterOffset", x.diameterOffset(), 0);
        Check.due("alloyOffset", x.alloyOffset(), 0);
    }

    private static void negativeCorrectedMeasurement() {
        CoinSorter x = Check.machine("type 1 1000 200 0 500;type 1 4000 200 9999 500;");
        Check.due("calibrate", x.calibrate(0, 4000, 9999), true);
        Check.due("diameterOffset", x.diameterOffset(), -3000);
        Check.due("alloyOffset", x.alloyOffset(), -9999);
        Check.due("a negative alloy", x.score(0, 4000, 9999 - 250), 500);
        Check.due("both negative", x.score(0, 1, 0), CoinSorter.ABSENT);
        Check.due("both negative", x.classify(1, 0), CoinSorter.UNKNOWN);
        Check.due("calibrate", x.calibrate(1, 1, 0), true);
        Check.due("diameterOffset", x.diameterOffset(), 3999);
        Check.due("alloyOffset", x.alloyOffset(), 9999);
        Check.due("far above", x.classify(4000, 9999), CoinSorter.UNKNOWN);
        Check.due("above the sensor's range", x.score(1, 101, 250), 1000);
    }

    private static void calibrateRefuses() {
        CoinSorter x = Check.machine("type 1 2000 30 1000 70;");
        int[][] wrong = {{-1, 2000, 1000}, {1, 2000, 1000}, {0, 0, 1000}, {0, 4001, 1000}, {0, 2000, -1}, {0, 2000, 10000},
            {Integer.MAX_VALUE, 1, 1}, {0, Integer.MIN_VALUE, 1}, {0, 1, Integer.MAX_VALUE}};
        for (int[] w : wrong) {
            Check.due("calibrate " + w[0] + ", " + w[1] + ", " + w[2], x.calibrate(w[0], w[1], w[2]), false);
        }
        Check.due("nothing changed", x.diameterOffset(), 0);
        Check.due("nothing changed", x.alloyOffset(), 0);
        Check.due("no change to undo", x.undo(), CoinSorter.ABSENT);
        Check.due("a change", x.calibrate(0, 2000, 1000), true);
        Check.due("a change also if the offsets are the same", x.undo(), 0);
    }

    private static void margin() {
        CoinSorter x = Check.machine("margin 2000;");
        Check.due("margin of the text", x.margin(), 2000);
        Check.due("setMargin(0)", x.setMargin(0), 2000);
        Check.due("margin", x.margin(), 0);
        Check.due("setMargin(2000)", x.setMargin(2000), 0);
        Check.due("setMargin(2001)", x.setMargin(2001), CoinSorter.INVALID);
        Check.due("setMargin(-1)", x.setMargin(-1), CoinSorter.INVALID);
        Check.due("setMargin(MIN)", x.setMargin(Integer.MIN_VALUE), CoinSorter.INVALID);
        Check.due("margin stays", x.margin(), 2000);
        Check.due("setMargin to the same", x.setMargin(2000), 2000);
        Check.due("the same margin is a change", x.undo(), 2);
        Check.due("undo", x.undo(), 1);
        Check.due("margin", x.margin(), 0);
    }
}
