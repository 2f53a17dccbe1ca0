/** Promises 1 to 9: a new object, append, parse and the configuration's data. */
public final class ConfigurationTest {
    private static final int SYNTAX = 1, RANGE = 2, REPEATED = 3, TOO_MANY = 4;
    private static final String TYPE = "type 1 2000 50 1000 100;";
    private static final String FAKE = "fake 2000 50 1000 100;";

    public static void main(String[] args) {
        newObject();
        append();
        appendKeepsBytesInOrder();
        parseLength();
        parseEmptiesTheBuffer();
        tokens();
        syntaxErrors();
        ranges();
        repeated();
        tooMany();
        lowestOffsetWins();
        successEmptiesTheMachine();
        parseAfterParse();
        emptiedRowsFillAnew();
        errorLeavesAllElse();
        unsetStatements();
        data();
        Check.end();
    }

    private static void error(String text, int offset, int kind) {
        CoinSorter x = new CoinSorter();
        Check.due("parse of '" + text.replace('\n', '|') + "'", Check.load(x, text), -2 - (8 * offset + kind));
        Check.due("types after an error", x.typeCount(), 0);
    }

    private static void good(String text, int types) {
        Check.due("parse of '" + text.replace('\n', '|') + "'", Check.load(new CoinSorter(), text), types);
    }

    private static void newObject() {
        CoinSorter x = new CoinSorter();
        Check.due("new typeCount", x.typeCount(), 0);
        Check.due("new fakeCount", x.fakeCount(), 0);
        Check.due("new binCount", x.binCount(), 0);
        Check.due("new margin", x.margin(), 100);
        Check.due("new diameterOffset", x.diameterOffset(), 0);
        Check.due("new alloyOffset", x.alloyOffset(), 0);
        Check.due("new hopperSize", x.hopperSize(), 0);
        Check.due("new loopSize", x.loopSize(), 0);
        Check.due("new isJammed", x.isJammed(), false);
        Check.due("new isStopped", x.isStopped(), false);
        Check.due("new stepCount", x.stepCount(), 0);
        Check.due("new bagCount", x.bagCount(), 0);
        Check.due("new sampleCount", x.sampleCount(), 0);
        Check.due("new binValue", x.binValue(), 0);
        Check.due("new discrepancy", x.discrepancy(), 0);
        for (int outcome = CoinSorter.UNSURE; outcome <= CoinSorter.JAM; outcome++) {
            Check.due("new rejected " + outcome, x.rejected(outcome), 0);
        }
        Check.due("new undo", x.undo(), CoinSorter.ABSENT);
        Check.due("new restoreSnapshot", x.restoreSnapshot(0), false);
        Check.due("new parse(1)", x.parse(1), CoinSorter.INVALID);
        Check.due("new insert at the widest gate", x.insert(4000, 0), 1);
        Check.due("new step", x.step(), CoinSorter.UNKNOWN);
    }

    private static void append() {
        CoinSorter x = new CoinSorter();
        for (int i = 1; i <= 40; i++) {
            Check.due("append " + i, x.append(0x20202020, 0x20202020, 0x20202020, 0x20202020, 0x20202020), 20 * i);
        }
        Check.due("append to a full buffer", x.append(0, 0, 0, 0, 0), CoinSorter.FULL);
        Check.due("append to a full buffer again", x.append(0, 0, 0, 0, 0), CoinSorter.FULL);
        Check.due("parse beyond 800", x.parse(801), CoinSorter.INVALID);
        Check.due("parse of 800 spaces", x.parse(800), 0);
        Check.due("append after parse", x.append(0, 0, 0, 0, 0), 20);
    }

    private static void appendKeepsBytesInOrder() {
        CoinSorter x = new CoinSorter();
        // "type 7 3210 198 7654 "  then  "321;gate 1234;      "
        x.append(0x74797065, 0x20372033, 0x32313020, 0x31393820, 0x37363534);
        x.append(0x20333231, 0x3b676174, 0x65203132, 0x33343b20, 0x20202020);
        Check.due("parse of two appends", x.parse(40), 1);
        Check.due("value from bytes", x.typeValue(0), 7);
        Check.due("score from bytes", x.score(0, 3210, 7654), 0);
        Check.due("diameter tolerance from bytes", x.score(0, 3210 + 99, 7654), 500);
        Check.due("alloy tolerance from bytes", x.score(0, 3210, 7654 + 321), 1000);
        CoinSorter y = new CoinSorter();
        y.append(0xff000000, 0, 0, 0, 0);
        Check.due("a byte above 127", y.parse(1), -3);
    }

    private static void parseLength() {
        CoinSorter x = new CoinSorter();
        Check.append(x, "gate 2000; bin");
        Check.due("parse(-1)", x.parse(-1), CoinSorter.INVALID);
        Check.due("parse(21)", x.parse(21), CoinSorter.INVALID);
        Check.due("parse(MIN)", x.parse(Integer.MIN_VALUE), CoinSorter.INVALID);
        Check.due("parse(MAX)", x.parse(Integer.MAX_VALUE), CoinSorter.INVALID);
        Check.due("parse of the first bytes alone", x.parse(11), 0);
        Check.due("parse(0) of an empty buffer", x.parse(0), 0);
        Check.load(x, TYPE);
        Check.due("typeCount before parse(0)", x.typeCount(), 1);
        Check.append(x, "bin");
        Check.due("parse(0) of a buffer", x.parse(0), 0);
        Check.due("typeCount after parse(0)", x.typeCount(), 0);
        Check.due("the text is cut at length", cutNumber(), 3);
    }

    /** A run of digits ends where the text ends, although the buffer goes on. */
    private static int cutNumber() {
        CoinSorter x = new CoinSorter();
        Check.append(x, TYPE + "bin 0 3;56789");
        x.parse(TYPE.length() + 8);
        return x.bagSize(0);
    }

    private static void parseEmptiesTheBuffer() {
        CoinSorter x = new CoinSorter();
        Check.append(x, TYPE);
        Check.due("parse out of range", x.parse(999), CoinSorter.INVALID);
        Check.due("the buffer stays", x.append(0, 0, 0, 0, 0), 60);
        Check.due("parse", x.parse(TYPE.length()), 1);
        Check.due("parse of the emptied buffer", x.parse(1), CoinSorter.INVALID);
        Check.append(x, "x");
        Check.due("parse of an error", x.parse(1), -3);
        Check.due("parse of the emptied buffer", x.parse(1), CoinSorter.INVALID);
        Check.due("append starts anew", x.append(0, 0, 0, 0, 0), 20);
    }

    private static void tokens() {
        good("", 0);
        good(" \n \n", 0);
        good("type1 2000 50 1000 100;", 1);
        good("type\n1\n2000\n50\n1000\n100\n;\n", 1);
        good("\n  type   1 2000 50 1000 100 ; ", 1);
        good("gate2000;loop5;margin7;", 0);
        good("type 0001 2000 0050 0000 0100;bin 0000 0001;", 1);
        error("gate 02000;", 5, SYNTAX);
        error("gate 20000;", 5, SYNTAX);
        error("gate 2 000;", 5, RANGE);
        error("gate 2000 0;", 10, SYNTAX);
        error("margins 5;", 0, SYNTAX);
        error("abcdef", 0, SYNTAX);
        error("gatex 2000;", 0, SYNTAX);
        error("gatez 2000;", 0, SYNTAX);
        error("agate 2000;", 0, SYNTAX);
        error("hate 2000;", 0, SYNTAX);
        error("gase 2000;", 0, SYNTAX);
        error("gatf 2000;", 0, SYNTAX);
        error("hype 1 2000 50 1000 100;", 0, SYNTAX);
        error("make 2000 50 1000 100;", 0, SYNTAX);
        error(TYPE + "pin 0 5;", 24, SYNTAX);
        error("coop 5;", 0, SYNTAX);
        error("nargin 5;", 0, SYNTAX);
        error("gat 2000;", 0, SYNTAX);
        error("gate 2000x;", 9, SYNTAX);
        error("Gate 2000;", 0, SYNTAX);
        error("gate\t2000;", 4, SYNTAX);
        error("gate\r2000;", 4, SYNTAX);
        error("gate -200;", 5, SYNTAX);
        error("gate 2000:", 9, SYNTAX);
        error("gate 2000/", 9, SYNTAX);
        error("gate 2000`", 9, SYNTAX);
        error("gate 2000{", 9, SYNTAX);
        error("gate 2000;\0", 10, SYNTAX);
        error("gate 2000;\u00e9", 10, SYNTAX);
        error("gate 2000;\u00ff", 10, SYNTAX);
    }

    private static void syntaxErrors() {
        error(";", 0, SYNTAX);
        error("  ;", 2, SYNTAX);
        error("5;", 0, SYNTAX);
        error("gate 2000;;", 10, SYNTAX);
        error("gate;", 4, SYNTAX);
        error("gate gate;", 5, SYNTAX);
        error("gate", 4, SYNTAX);
        error("gate  ", 6, SYNTAX);
        error("gate 2000", 9, SYNTAX);
        error("gate 2000 \n", 11, SYNTAX);
        error("gate 2000 loop 5;", 10, SYNTAX);
        error("type 1 2000 50 1000;", 19, SYNTAX);
        error("type 1 2000 50 1000 100 1;", 24, SYNTAX);
        error("fake 2000 50 1000;", 17, SYNTAX);
        error("fake 2000 50 1000 100 1;", 22, SYNTAX);
        error(TYPE + "bin 0;", 29, SYNTAX);
        error(TYPE + "bin 0 5 5;", 32, SYNTAX);
        error("loop;", 4, SYNTAX);
        error("loop 1 1;", 7, SYNTAX);
        error("margin;", 6, SYNTAX);
        error("margin 1 1;", 9, SYNTAX);
        error("coin 1;", 0, SYNTAX);
    }

    /** For each number of each statement: both ends of its range, and what lies just outside. */
    private static void ranges() {
        range("type ", " 2000 50 1000 100;", 1, 500);
        range("type 1 ", " 50 1000 100;", 1000, 4000);
        range("type 1 2000 ", " 1000 100;", 1, 200);
        range("type 1 2000 50 ", " 100;", 0, 9999);
        range("type 1 2000 50 1000 ", ";", 1, 500);
        range("fake ", " 50 1000 100;", 1000, 4000);
        range("fake 2000 ", " 1000 100;", 1, 200);
        range("fake 2000 50 ", " 100;", 0, 9999);
        range("fake 2000 50 1000 ", ";", 1, 500);
        range(TYPE + TYPE + TYPE + "bin ", " 5;", 0, 2);
        range(TYPE + "bin 0 ", ";", 1, 100);
        range("gate ", ";", 1000, 4000);
        range("loop ", ";", 0, 20);
        range("margin ", ";", 0, 2000);
        error("bin 0 5;", 4, RANGE);
        error("bin 0 5;" + TYPE, 4, RANGE);
        error(TYPE + "bin 1 5;" + TYPE, 28, RANGE);
        error(FAKE + "bin 0 5;", 26, RANGE);
    }

    private static void range(String before, String after, int low, int high) {
        int types = before.split("type", -1).length - 1;
        good(before + low + after, types);
        good(before + high + after, types);
        if (low > 0) {
            error(before + (low - 1) + after, before.length(), RANGE);
        }
        if (high < 9999) {
            error(before + (high + 1) + after, before.length(), RANGE);
        }
    }

    private static void repeated() {
        error("gate 2000;gate 2000;", 10, REPEATED);
        error("loop 5;loop 5;", 7, REPEATED);
        error("margin 5;gate 2000;margin 5;", 19, REPEATED);
        error("gate 2000; gate", 11, REPEATED);
        error("gate 2000;gate 5;", 10, REPEATED);
        error("loop 5;loopy 5;", 7, SYNTAX);
        good("gate 2000;loop 5;margin 5;", 0);
    }

    private static void tooMany() {
        String bin = "bin 7 1;";
        good(TYPE.repeat(8), 8);
        error(TYPE.repeat(8) + " " + TYPE, 8 * TYPE.length() + 1, TOO_MANY);
        error(TYPE.repeat(8) + "type", 8 * TYPE.length(), TOO_MANY);
        good(FAKE.repeat(4), 0);
        error(FAKE.repeat(5), 4 * FAKE.length(), TOO_MANY);
        good(TYPE.repeat(8) + bin.repeat(8), 8);
        error(TYPE.repeat(8) + bin.repeat(9), 8 * TYPE.length() + 8 * bin.length(), TOO_MANY);
        error(TYPE.repeat(8) + bin.repeat(8) + "bin x", 8 * TYPE.length() + 8 * bin.length(), TOO_MANY);
    }

    private static void lowestOffsetWins() {
        error("gate 999 ! ", 5, RANGE);
        error("gate 999x", 5, RANGE);
        error("gate ! 999", 5, SYNTAX);
        error("type 0 0 0 0 0;", 5, RANGE);
        error("loop 21", 5, RANGE);
        error("loop 20 ", 8, SYNTAX);
    }

    private static void successEmptiesTheMachine() {
        CoinSorter x = Check.machine(TYPE + "bin 0 2;gate 3000;margin 7;loop 2;");
        Check.insert(x, 8, 2000, 1000);
        x.insert(1000, 0);
        x.run(2);
        x.changeBag(0);
        x.run(5);
        x.changeBag(0);
        x.run(5);
        x.insert(3500, 0);
        x.changeBag(0);
        x.run(5);
        x.calibrate(0, 1990, 900);
        x.setMargin(9);
        x.addSample(2000, 1000, 0);
        x.audit(0, 5);
        x.saveSnapshot(0);
        x.saveSnapshot(1);
        Check.due("jammed before", x.isJammed(), true);
        Check.insert(x, 3, 2000, 1000);
        Check.due("parse", Check.load(x, TYPE + TYPE + "bin 1 3;margin 55;"), 2);
        Check.due("margin", x.margin(), 55);
        Check.due("diameterOffset", x.diameterOffset(), 0);
        Check.due("alloyOffset", x.alloyOffset(), 0);
        Check.due("hopperSize", x.hopperSize(), 0);
        Check.due("loopSize", x.loopSize(), 0);
        Check.due("isJammed", x.isJammed(), false);
        Check.due("binCoins", x.binCoins(0), 0);
        Check.due("stepCount", x.stepCount(), 0);
        Check.due("record", x.record(0), CoinSorter.INVALID);
        Check.due("bagCount", x.bagCount(), 0);
        Check.due("discrepancy", x.discrepancy(), 0);
        Check.due("sampleCount", x.sampleCount(), 0);
        Check.due("rejected UNKNOWN", x.rejected(CoinSorter.UNKNOWN), 0);
        Check.due("rejected JAM", x.rejected(CoinSorter.JAM), 0);
        Check.due("restoreSnapshot(0)", x.restoreSnapshot(0), false);
        Check.due("restoreSnapshot(1)", x.restoreSnapshot(1), false);
        Check.due("undo", x.undo(), CoinSorter.ABSENT);
    }

    /** Good and bad texts by turns: nothing of an earlier one is left. */
    private static void parseAfterParse() {
        CoinSorter x = new CoinSorter();
        String large = TYPE.repeat(8) + FAKE.repeat(4) + "bin 7 9;".repeat(8) + "gate 1500;loop 20;margin 1;";
        for (int round = 0; round < 4; round++) {
            Check.due("a large text", Check.load(x, large), 8);
            Check.due("fakeCount", x.fakeCount(), 4);
            Check.due("binCount", x.binCount(), 8);
            Check.due("an error at the end", Check.load(x, large + "!"), -2 - (8 * large.length() + SYNTAX));
            Check.due("a repeated gate", Check.load(x, "gate 2000;gate 2000;"), -2 - (8 * 10 + REPEATED));
            Check.due("a small text", Check.load(x, "type 3 3000 20 4000 40;bin 0 1;fake 1000 1 1 1;"), 1);
            Check.due("fakeCount", x.fakeCount(), 1);
            Check.due("binCount", x.binCount(), 1);
            Check.due("typeValue", x.typeValue(0), 3);
            Check.due("score", x.score(0, 3010, 4010), 500 + 250);
            Check.due("a fake", x.classify(1000, 1), CoinSorter.COUNTERFEIT);
            Check.due("bagSize", x.bagSize(0), 1);
            Check.due("margin", x.margin(), 100);
            Check.insert(x, 9, 3000, 4000);
            Check.due("gate and loop are unset", x.run(100), 6);
            Check.due("nothing", Check.load(x, ""), 0);
            Check.due("fakeCount", x.fakeCount(), 0);
            Check.due("binCount", x.binCount(), 0);
            Check.due("binCoins without bins", x.binCoins(0), CoinSorter.INVALID);
            Check.due("typeValue without types", x.typeValue(0), CoinSorter.INVALID);
            Check.due("classify without types", x.classify(3000, 4000), CoinSorter.UNKNOWN);
        }
    }

    /** After a parse, coins, bags and samples are counted from none. */
    private static void emptiedRowsFillAnew() {
        CoinSorter x = new CoinSorter();
        for (int round = 1; round <= 3; round++) {
            Check.load(x, TYPE + "bin 0 " + round + ";");
            Check.due("loopSize", x.loopSize(), 0);
            Check.insert(x, round + 2, 2000, 1000);
            x.run(100);
            Check.due("loopSize", x.loopSize(), 2);
            Check.due("changeBag", x.changeBag(0), 0);
            Check.due("bagCoins", x.bagCoins(0), round);
            Check.due("worstBag", x.worstBag(), CoinSorter.ABSENT);
            Check.due("audit", x.audit(0, 10), 10 - round);
            Check.due("addSample", x.addSample(2000, 1000, round % 2 - 1), 1);
            Check.due("sampleCost", x.sampleCost(0), round % 2 == 0 ? 10 : 0);
        }
    }

    private static void errorLeavesAllElse() {
        CoinSorter x = Check.machine(TYPE + "bin 0 2;gate 3000;margin 7;loop 2;");
        Check.insert(x, 5, 2000, 1000);
        x.run(3);
        x.saveSnapshot(0);
        Check.due("parse of an error", Check.load(x, "type 9 1000 5 5 5;gate 1000;loop 0;margin 1;bin 0 9;x") < -2, true);
        Check.due("typeCount", x.typeCount(), 1);
        Check.due("typeValue", x.typeValue(0), 1);
        Check.due("binCount", x.binCount(), 1);
        Check.due("bagSize", x.bagSize(0), 2);
        Check.due("margin", x.margin(), 7);
        Check.due("hopperSize", x.hopperSize(), 2);
        Check.due("loopSize", x.loopSize(), 1);
        Check.due("loop capacity stays", x.step(), CoinSorter.LOOP);
        Check.due("undo", x.undo(), 6);
        Check.due("restoreSnapshot", x.restoreSnapshot(0), true);
        x.insert(3000, 0);
        x.changeBag(0);
        x.run(2);
        Check.due("gate stays", x.isJammed(), false);
    }

    private static void unsetStatements() {
        CoinSorter x = Check.machine(TYPE + "bin 0 1;gate 1000;loop 0;margin 0;");
        Check.due("margin set", x.margin(), 0);
        Check.load(x, TYPE + "bin 0 1;");
        Check.due("margin unset", x.margin(), 100);
        Check.insert(x, 10, 2000, 1000);
        Check.due("loop unset: a bin and five in the loop", x.run(100), 6);
        Check.due("loopSize", x.loopSize(), 5);
        Check.load(x, "");
        x.insert(4000, 0);
        Check.due("gate unset", x.step(), CoinSorter.UNKNOWN);
    }

    private static void data() {
        CoinSorter x = Check.machine("type 500 1000 1 0 1;fake 4000 1 9999 1;type 3 1500 9 9 9;bin 1 100;bin 0 1;"
            + "fake 4000 200 9999 500;bin 1 7;type 2 1600 9 9 9;");
        Check.due("typeCount", x.typeCount(), 3);
        Check.due("fakeCount", x.fakeCount(), 2);
        Check.due("binCount", x.binCount(), 3);
        int[] values = {500, 3, 2};
        int[] types = {1, 0, 1};
        int[] sizes = {100, 1, 7};
        for (int i = 0; i < 3; i++) {
            Check.due("typeValue " + i, x.typeValue(i), values[i]);
            Check.due("binType " + i, x.binType(i), types[i]);
            Check.due("bagSize " + i, x.bagSize(i), sizes[i]);
        }
        for (int wrong : new int[] {-1, 3, 8, Integer.MIN_VALUE, Integer.MAX_VALUE}) {
            Check.due("typeValue " + wrong, x.typeValue(wrong), CoinSorter.INVALID);
            Check.due("binType " + wrong, x.binType(wrong), CoinSorter.INVALID);
            Check.due("bagSize " + wrong, x.bagSize(wrong), CoinSorter.INVALID);
        }
    }
}
