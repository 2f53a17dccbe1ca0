import java.util.function.Consumer;

/** The boundary cases of the configuration text and of promises 1 to 9, a test for each sentence. */
final class TextLimits {
    private static final int INVALID = CoinSorter.INVALID, FULL = CoinSorter.FULL;
    private static final int SYNTAX = 1, RANGE = 2, REPEATED = 3, TOO_MANY = 4;
    private static final int[] NO_INDEX = {-1, Integer.MIN_VALUE, Integer.MAX_VALUE};
    private static final String TYPE = "type 1 2000 50 1000 100;";
    private static final String FAKE = "fake 2000 50 1000 100;";
    /** Every statement, as its word and numbers. */
    private static final String[][] STATEMENTS = {{"type", "1", "2000", "50", "1000", "100"},
        {"fake", "2000", "50", "1000", "100"}, {"bin", "0", "5"}, {"gate", "2000"}, {"loop", "5"}, {"margin", "100"}};

    private TextLimits() {
    }

    static void test() {
        tokens();
        grammar();
        ranges();
        errors();
        constants();
        newAndAppend();
        parse();
        data();
    }

    private static void says(String words, Runnable body) {
        Sentences.test(Sentences.DESCRIPTION, words, body);
    }

    private static void tokens() {
        says("The input buffer holds at most 800 bytes.", TextLimits::bufferOf800);
        says("Bytes 32 (space) and 10 (line feed) are white space; they may stand between tokens and are otherwise ignored.",
            TextLimits::whiteSpace);
        says("A token is a word (a maximal run of lower-case letters a to z, 1 to 6 letters long),", TextLimits::words);
        says("a number (a maximal run of digits, 1 to 4 digits long)", TextLimits::numbers);
        says("or a semicolon.", TextLimits::semicolons);
        says("Any other byte,", TextLimits::everyByte);
        says("and any longer run, is an illegal token that starts at its first byte.", TextLimits::longerRuns);
    }

    private static void grammar() {
        says("config = { statement \";\" }", TextLimits::noneOrMany);
        says("statement = \"type\" value diameter diameterTolerance alloy alloyTolerance"
            + " | \"fake\" diameter diameterTolerance alloy alloyTolerance"
            + " | \"bin\" type size | \"gate\" width | \"loop\" capacity | \"margin\" margin", TextLimits::neitherFewerNorMore);
        says("All unquoted items are numbers.", TextLimits::itemsAreNumbers);
        says("Types, fakes and bins are numbered from 0, each in the order of the text.", TextLimits::numberedInOrder);
        says("There are at most 8 types,", TextLimits::eightTypes);
        says("4 fakes", TextLimits::fourFakes);
        says("and 8 bins.", TextLimits::eightBins);
        says("The statements gate, loop and margin can each occur once.", TextLimits::once);
    }

    private static void ranges() {
        says("Ranges: value 1 to 500;", TextLimits::values);
        says("diameter 1000 to 4000;", TextLimits::diameters);
        says("diameterTolerance 1 to 200;", TextLimits::diameterTolerances);
        says("alloy 0 to 9999;", TextLimits::alloys);
        says("alloyTolerance 1 to 500;", TextLimits::alloyTolerances);
        says("type the number of a type that is declared by an earlier statement;", TextLimits::typesOfBins);
        says("size 1 to 100;", TextLimits::sizes);
        says("width 1000 to 4000", TextLimits::widths);
        says("(4000 without the statement gate);", TextLimits::widthUnset);
        says("capacity 0 to 20", TextLimits::capacities);
        says("(5 without loop);", TextLimits::capacityUnset);
        says("margin 0 to 2000", TextLimits::margins);
        says("(100 without margin).", TextLimits::marginUnset);
    }

    private static void errors() {
        says("Syntax errors. The parser reports the error with the lowest byte offset;", TextLimits::lowestOffset);
        says("of several kinds at one offset the lowest:", TextLimits::lowestKind);
        says("1 (syntax): an illegal token, or a token that cannot continue a configuration;", TextLimits::cannotContinue);
        says("if the text ends too early, the offset is the length of the text.", TextLimits::endsTooEarly);
        says("2 (range): a number that is out of its range.", TextLimits::outOfRange);
        says("3 (repeated): the word of a second gate, loop or margin statement.", TextLimits::repeated);
        says("4 (too many): the word type, fake or bin of a statement of which there are too many.", TextLimits::tooMany);
    }

    private static void constants() {
        says("INVALID = -1: An argument is out of range, or there is no such type, bin, bag or coin.",
            () -> Check.due("INVALID", new CoinSorter().typeValue(0), -1));
        says("ABSENT = -2: What was asked for does not exist or is not possible.",
            () -> Check.due("ABSENT", new CoinSorter().step(), -2));
        says("FULL = -3: A limit on the number of coins, bags or samples, or the size of the input buffer, would be exceeded.",
            () -> Check.due("FULL", spaces(40).append(0, 0, 0, 0, 0), -3));
    }

    private static void newAndAppend() {
        Sentences.test(1, "Creates a machine without types and bins,", TextLimits::newMachine);
        Sentences.test(1, "with an empty input buffer.", TextLimits::newBuffer);
        Sentences.test(2, "Appends twenty bytes to the input buffer: the four bytes of a, then those of b, c, d and e, each with the"
            + " most significant byte first.", TextLimits::twentyBytes);
        Sentences.test(2, "Returns the new length of the buffer;", TextLimits::newLength);
        Sentences.test(2, "FULL, with nothing appended, if the buffer would have more than 800 bytes.", TextLimits::fullBuffer);
    }

    private static void parse() {
        Sentences.test(3, "Parses the first length bytes of the input buffer as a configuration and replaces the current one by it.",
            TextLimits::replaces);
        Sentences.test(3, "number of bytes, 0 to the length of the buffer;", TextLimits::lengths);
        Sentences.test(3, "0 gives the configuration without types and bins", TextLimits::lengthZero);
        Sentences.test(3, "Returns the number of types;", TextLimits::numberOfTypes);
        Sentences.test(3, "INVALID if length is out of range, and then the buffer stays as it is;", TextLimits::lengthOutOfRange);
        Sentences.test(3, "-2 - (8 * offset + kind) for a syntax error.", TextLimits::errorAnswers);
        Sentences.test(3, "After a success or a syntax error the buffer is empty.", TextLimits::bufferIsEmpty);
        Sentences.test(3, "After an error everything else stays as it is.", TextLimits::errorLeavesAll);
    }

    private static void data() {
        Sentences.test(4, "Returns the number of types.", TextLimits::typeCounts);
        Sentences.test(5, "Returns the number of fakes.", TextLimits::fakeCounts);
        Sentences.test(6, "Returns the number of bins.", TextLimits::binCounts);
        Sentences.test(7, "INVALID if there is no such type.", TextLimits::noSuchType);
        Sentences.test(8, "INVALID if there is no such bin.", TextLimits::noSuchBinType);
        Sentences.test(9, "INVALID if there is no such bin.", TextLimits::noSuchBagSize);
    }

    // ---- what the tests are made of

    private static void good(String text, int types) {
        Check.due("parse of '" + text.replace('\n', '|') + "'", Check.load(new CoinSorter(), text), types);
    }

    private static void error(String text, int offset, int kind) {
        Check.due("parse of '" + text.replace('\n', '|') + "'", Check.load(new CoinSorter(), text), -2 - (8 * offset + kind));
    }

    /** Appends so many times twenty spaces. */
    private static CoinSorter spaces(int appends) {
        CoinSorter x = new CoinSorter();
        for (int i = 0; i < appends; i++) {
            x.append(0x20202020, 0x20202020, 0x20202020, 0x20202020, 0x20202020);
        }
        return x;
    }

    /** The statement up to the number at this place, with the type that a bin needs before it. */
    private static String begun(String[] statement, int numbers) {
        StringBuilder text = new StringBuilder(statement[0].equals("bin") ? TYPE : "").append(statement[0]);
        for (int i = 1; i <= numbers; i++) {
            text.append(' ').append(statement[i]);
        }
        return text.toString();
    }

    private static int typesIn(String[] statement) {
        return statement[0].equals("type") || statement[0].equals("bin") ? 1 : 0;
    }

    /** Both ends of a range are taken, and what lies just outside is an error at the number. */
    private static void range(String before, String after, int low, int high) {
        int types = before.split("type", -1).length - 1;
        good(before + low + after, types);
        good(before + high + after, types);
        if (low > 0) {
            error(before + (low - 1) + after, before.length(), RANGE);
            error(before + "0" + after, before.length(), RANGE);
        }
        if (high < 9999) {
            error(before + (high + 1) + after, before.length(), RANGE);
            error(before + "9999" + after, before.length(), RANGE);
        }
    }

    // ---- tokens

    private static void bufferOf800() {
        CoinSorter x = spaces(39);
        Check.due("the fortieth append", Check.append(x, "        margin 1234;"), 800);
        Check.due("one more", x.append(0, 0, 0, 0, 0), FULL);
        Check.due("parse of 800 bytes", x.parse(800), 0);
        Check.due("the last of them was read", x.margin(), 1234);
        CoinSorter y = spaces(39);
        Check.append(y, "        margin 1234;");
        Check.due("parse of 799 bytes", y.parse(799), -2 - (8 * 799 + SYNTAX));
    }

    private static void whiteSpace() {
        good(" ", 0);
        good("\n", 0);
        good("\n \n  \n", 0);
        good("\n type\n1 2000\n \n50\n\n1000   100 \n;\n ", 1);
        good("type1 2000 50 1000 100;bin0 5;loop5;margin5;gate2000;", 1);
        error("mar gin 5;", 0, SYNTAX);
        error("ga\nte 2000;", 0, SYNTAX);
        error("gate 20 00;", 5, RANGE);
        error("margin 1\n00;", 9, SYNTAX);
        error("gate 2000;\t", 10, SYNTAX);
        error("gate 2000;\r", 10, SYNTAX);
        error("gate 2000;\u000b", 10, SYNTAX);
        error("gate 2000;\f", 10, SYNTAX);
        error("gate 2000;\u001f", 10, SYNTAX);
        error("gate 2000;!", 10, SYNTAX);
        error("gate 2000;\u00a0", 10, SYNTAX);
    }

    private static void words() {
        good("margin 5;", 0);
        good(TYPE + "bin 0 5;", 1);
        for (char letter = 'a'; letter <= 'z'; letter++) {
            error("" + letter, 0, SYNTAX);
            error("gate" + letter + " 2000;", 0, SYNTAX);
            error(letter + "gate 2000;", 0, SYNTAX);
        }
        for (char other : new char[] {'`', '{', 'A', 'G', 'Z', '@', '[', '_', '-'}) {
            error("gate" + other + " 2000;", 4, SYNTAX);
            error(other + "gate 2000;", 0, SYNTAX);
        }
        for (String[] statement : STATEMENTS) {
            String text = begun(statement, statement.length - 1) + ";";
            int start = text.indexOf(statement[0]);
            for (int i = 0; i < statement[0].length(); i++) {
                StringBuilder other = new StringBuilder(text);
                other.setCharAt(start + i, 'z');
                error(other.toString(), start, SYNTAX);
                other.setCharAt(start + i, (char) (text.charAt(start + i) + 1));
                error(other.toString(), start, SYNTAX);
            }
        }
        error("margi 5;", 0, SYNTAX);
        error("margins 5;", 0, SYNTAX);
        error("gateloop 5;", 0, SYNTAX);
    }

    private static void numbers() {
        margin("margin 5;", 5);
        margin("margin 67;", 67);
        margin("margin 890;", 890);
        margin("margin 1234;", 1234);
        margin("margin 0000;", 0);
        margin("margin 0001;", 1);
        error("margin 00001;", 7, SYNTAX);
        error("margin 12345;", 7, SYNTAX);
        error("margin 5/", 8, SYNTAX);
        error("margin 5:", 8, SYNTAX);
        error("margin -5;", 7, SYNTAX);
        error("margin +5;", 7, SYNTAX);
        error("margin 5.0;", 8, SYNTAX);
    }

    private static void margin(String text, int margin) {
        CoinSorter x = new CoinSorter();
        Check.due("parse of " + text, Check.load(x, text), 0);
        Check.due("margin after " + text, x.margin(), margin);
    }

    private static void semicolons() {
        error(";", 0, SYNTAX);
        error(" ;", 1, SYNTAX);
        error("gate 2000;;", 10, SYNTAX);
        error("gate;2000;", 4, SYNTAX);
        error("gate 2000:", 9, SYNTAX);
        error("gate 2000,", 9, SYNTAX);
        good("gate 2000;loop 5;", 0);
        good("gate 2000 ; loop 5 ;", 0);
    }

    /** Each of the 256 bytes, where a statement can start and within a number. */
    private static void everyByte() {
        for (int b = 0; b < 256; b++) {
            String text = "gate 2000;" + (char) b;
            if (b == ' ' || b == '\n') {
                good(text, 0);
                margin("margin 1" + (char) b + ";", 1);
            } else {
                error(text, 10, SYNTAX);
                error((char) b + "gate 2000;", 0, SYNTAX);
                if (b >= '0' && b <= '9') {
                    margin("margin 1" + (char) b + ";", 10 + b - '0');
                } else {
                    error("margin 1" + (char) b + ";", b == ';' ? 9 : 8, SYNTAX);
                }
            }
        }
    }

    private static void longerRuns() {
        error("gate 2000;  toolong 5;", 12, SYNTAX);
        error("gate   12345;", 7, SYNTAX);
        error("gate   toolong;", 7, SYNTAX);
        error("gate 2000 12345;", 10, SYNTAX);
        error("marginmargin 5;", 0, SYNTAX);
        error("x".repeat(800), 0, SYNTAX);
        error("gate " + "2".repeat(795), 5, SYNTAX);
        error("loop " + "0".repeat(794) + ";", 5, SYNTAX);
    }

    // ---- grammar

    private static void noneOrMany() {
        good("", 0);
        for (String[] statement : STATEMENTS) {
            String text = begun(statement, statement.length - 1);
            good(text + ";", typesIn(statement));
            error(text, text.length(), SYNTAX);
        }
        String all = TYPE.repeat(8) + FAKE.repeat(4) + "bin 7 100;".repeat(8) + "gate 4000;loop 20;margin 2000;";
        good(all, 8);
        good("margin 2000;loop 20;gate 4000;" + FAKE.repeat(4) + TYPE.repeat(8) + "bin 7 100;".repeat(8), 8);
    }

    private static void neitherFewerNorMore() {
        for (String[] statement : STATEMENTS) {
            for (int numbers = 0; numbers < statement.length - 1; numbers++) {
                String text = begun(statement, numbers);
                error(text + ";", text.length(), SYNTAX);
            }
            String whole = begun(statement, statement.length - 1);
            error(whole + " 1;", whole.length() + 1, SYNTAX);
            error(whole + " gate 2000;", whole.length() + 1, SYNTAX);
        }
    }

    private static void itemsAreNumbers() {
        for (String[] statement : STATEMENTS) {
            for (int numbers = 0; numbers < statement.length - 1; numbers++) {
                String text = begun(statement, numbers) + " ";
                error(text + "x;", text.length(), SYNTAX);
                error(text + "type;", text.length(), SYNTAX);
                error(text + "!;", text.length(), SYNTAX);
            }
        }
        error("2000 2000;", 0, SYNTAX);
        error("5;", 0, SYNTAX);
    }

    private static void numberedInOrder() {
        CoinSorter x = Check.machine("type 5 1500 50 1000 100;fake 3000 50 1000 100;type 3 1600 50 1000 100;bin 1 7;"
            + "fake 3200 50 1000 100;bin 0 6;type 4 1700 50 1000 100;bin 2 8;bin 1 9;");
        int[] values = {5, 3, 4};
        int[] types = {1, 0, 2, 1};
        int[] sizes = {7, 6, 8, 9};
        for (int type = 0; type < 3; type++) {
            Check.due("typeValue " + type, x.typeValue(type), values[type]);
            Check.due("classify as " + type, x.classify(1500 + 100 * type, 1000), type);
        }
        for (int bin = 0; bin < 4; bin++) {
            Check.due("binType " + bin, x.binType(bin), types[bin]);
            Check.due("bagSize " + bin, x.bagSize(bin), sizes[bin]);
        }
    }

    private static void eightTypes() {
        good(TYPE.repeat(8), 8);
        error(TYPE.repeat(9), 8 * TYPE.length(), TOO_MANY);
        error(TYPE.repeat(8) + FAKE + "\n" + TYPE, 8 * TYPE.length() + FAKE.length() + 1, TOO_MANY);
    }

    private static void fourFakes() {
        CoinSorter x = Check.machine(FAKE.repeat(4));
        Check.due("fakeCount", x.fakeCount(), 4);
        error(FAKE.repeat(5), 4 * FAKE.length(), TOO_MANY);
        error(FAKE.repeat(4) + TYPE + " " + FAKE, 4 * FAKE.length() + TYPE.length() + 1, TOO_MANY);
    }

    private static void eightBins() {
        CoinSorter x = Check.machine(TYPE + "bin 0 1;".repeat(8));
        Check.due("binCount", x.binCount(), 8);
        error(TYPE + "bin 0 1;".repeat(9), TYPE.length() + 64, TOO_MANY);
        error(TYPE + "bin 0 1;".repeat(8) + TYPE + "bin 1 1;", 2 * TYPE.length() + 64, TOO_MANY);
    }

    private static void once() {
        good("gate 2000;loop 5;margin 100;", 0);
        for (String one : new String[] {"gate 2000;", "loop 5;", "margin 100;"}) {
            good(one, 0);
            error(one + one, one.length(), REPEATED);
            error(one + TYPE + one + one, one.length() + TYPE.length(), REPEATED);
        }
    }

    // ---- ranges

    private static void values() {
        range("type ", " 2000 50 1000 100;", 1, 500);
        CoinSorter x = Check.machine("type 1 2000 50 1000 100;type 500 2000 50 1000 100;");
        Check.due("the least value", x.typeValue(0), 1);
        Check.due("the greatest value", x.typeValue(1), 500);
    }

    private static void diameters() {
        range("type 1 ", " 50 1000 100;", 1000, 4000);
        range("fake ", " 50 1000 100;", 1000, 4000);
        CoinSorter x = Check.machine("type 1 1000 50 1000 100;type 1 4000 50 1000 100;fake 1000 50 9000 100;fake 4000 50 9000 100;");
        Check.due("the least diameter", x.score(0, 1000, 1000), 0);
        Check.due("the greatest diameter", x.score(1, 4000, 1000), 0);
        Check.due("a fake of the least diameter", x.classify(950, 9000), CoinSorter.COUNTERFEIT);
        Check.due("a fake of the greatest diameter", x.classify(3950, 9000), CoinSorter.COUNTERFEIT);
    }

    private static void diameterTolerances() {
        range("type 1 2000 ", " 1000 100;", 1, 200);
        range("fake 2000 ", " 1000 100;", 1, 200);
        CoinSorter x = Check.machine("type 1 2000 1 1000 100;type 1 2000 200 5000 100;fake 3000 1 9000 100;fake 3500 200 9000 100;");
        Check.due("at the least tolerance", x.score(0, 2001, 1000), 1000);
        Check.due("beyond the least tolerance", x.score(0, 2002, 1000), CoinSorter.ABSENT);
        Check.due("at the greatest tolerance", x.score(1, 1800, 5000), 1000);
        Check.due("beyond the greatest tolerance", x.score(1, 1799, 5000), CoinSorter.ABSENT);
        Check.due("a fake at the least", x.classify(3001, 9000), CoinSorter.COUNTERFEIT);
        Check.due("a fake beyond the least", x.classify(3002, 9000), CoinSorter.UNKNOWN);
        Check.due("a fake at the greatest", x.classify(3700, 9000), CoinSorter.COUNTERFEIT);
        Check.due("a fake beyond the greatest", x.classify(3701, 9000), CoinSorter.UNKNOWN);
    }

    private static void alloys() {
        range("type 1 2000 50 ", " 100;", 0, 9999);
        range("fake 2000 50 ", " 100;", 0, 9999);
        CoinSorter x = Check.machine("type 1 2000 50 0 100;type 1 2000 50 9999 100;fake 3000 50 0 100;fake 3000 50 9999 100;");
        Check.due("the least alloy", x.score(0, 2000, 0), 0);
        Check.due("the greatest alloy", x.score(1, 2000, 9999), 0);
        Check.due("a fake of the least alloy", x.classify(3000, 100), CoinSorter.COUNTERFEIT);
        Check.due("a fake of the greatest alloy", x.classify(3000, 9899), CoinSorter.COUNTERFEIT);
    }

    private static void alloyTolerances() {
        range("type 1 2000 50 1000 ", ";", 1, 500);
        range("fake 2000 50 1000 ", ";", 1, 500);
        CoinSorter x = Check.machine("type 1 2000 50 1000 1;type 1 2000 50 5000 500;fake 3000 50 1000 1;fake 3000 50 5000 500;");
        Check.due("at the least tolerance", x.score(0, 2000, 999), 1000);
        Check.due("beyond the least tolerance", x.score(0, 2000, 998), CoinSorter.ABSENT);
        Check.due("at the greatest tolerance", x.score(1, 2000, 5500), 1000);
        Check.due("beyond the greatest tolerance", x.score(1, 2000, 5501), CoinSorter.ABSENT);
        Check.due("a fake at the least", x.classify(3000, 999), CoinSorter.COUNTERFEIT);
        Check.due("a fake beyond the least", x.classify(3000, 998), CoinSorter.UNKNOWN);
        Check.due("a fake at the greatest", x.classify(3000, 5500), CoinSorter.COUNTERFEIT);
        Check.due("a fake beyond the greatest", x.classify(3000, 5501), CoinSorter.UNKNOWN);
    }

    private static void typesOfBins() {
        error("bin 0 5;", 4, RANGE);
        error("bin 0 5;" + TYPE, 4, RANGE);
        error(FAKE + "bin 0 5;", FAKE.length() + 4, RANGE);
        error(TYPE + "bin 1 5;" + TYPE, TYPE.length() + 4, RANGE);
        for (int types = 1; types <= 8; types++) {
            String text = TYPE.repeat(types) + "bin ";
            good(text + "0 5;", types);
            good(text + (types - 1) + " 5;", types);
            error(text + types + " 5;", text.length(), RANGE);
            error(text + "9999 5;", text.length(), RANGE);
        }
    }

    private static void sizes() {
        range(TYPE + "bin 0 ", ";", 1, 100);
        CoinSorter x = Check.machine(TYPE + "bin 0 1;bin 0 100;");
        Check.due("the least size", x.bagSize(0), 1);
        Check.due("the greatest size", x.bagSize(1), 100);
    }

    private static void widths() {
        range("gate ", ";", 1000, 4000);
        CoinSorter x = Check.machine("gate 1000;");
        x.insert(1000, 0);
        x.insert(1001, 0);
        Check.due("as wide as the narrowest gate", x.step(), CoinSorter.UNKNOWN);
        Check.due("wider than the narrowest gate", x.step(), CoinSorter.JAM);
        CoinSorter y = Check.machine("gate 4000;");
        y.insert(4000, 0);
        Check.due("as wide as the widest gate", y.step(), CoinSorter.UNKNOWN);
    }

    private static void widthUnset() {
        CoinSorter x = Check.machine("gate 1000;");
        Check.load(x, "loop 1;");
        x.insert(4000, 0);
        Check.due("the widest coin", x.step(), CoinSorter.UNKNOWN);
        CoinSorter y = new CoinSorter();
        y.insert(4000, 0);
        Check.due("the widest coin in a new object", y.step(), CoinSorter.UNKNOWN);
    }

    private static void capacities() {
        range("loop ", ";", 0, 20);
        loopHolds("loop 0;", 0);
        loopHolds("loop 1;", 1);
        loopHolds("loop 20;", 20);
    }

    private static void capacityUnset() {
        loopHolds("", 5);
        CoinSorter x = Check.machine("loop 2;");
        Check.load(x, TYPE + "bin 0 1;");
        Check.insert(x, 25, 2000, 1000);
        x.run(100);
        Check.due("after a text with another capacity", x.loopSize(), 5);
    }

    private static void loopHolds(String statement, int coins) {
        CoinSorter x = Check.machine(TYPE + "bin 0 1;" + statement);
        Check.insert(x, 25, 2000, 1000);
        Check.due("run with '" + statement + "'", x.run(100), 1 + coins);
        Check.due("loopSize with '" + statement + "'", x.loopSize(), coins);
        Check.due("isStopped with '" + statement + "'", x.isStopped(), true);
    }

    private static void margins() {
        range("margin ", ";", 0, 2000);
        margin("margin 0;", 0);
        margin("margin 2000;", 2000);
    }

    private static void marginUnset() {
        margin("", 100);
        CoinSorter x = Check.machine("margin 7;");
        Check.load(x, TYPE);
        Check.due("after a text with another margin", x.margin(), 100);
        x.setMargin(9);
        Check.load(x, TYPE);
        Check.due("after setMargin", x.margin(), 100);
    }

    // ---- errors

    private static void lowestOffset() {
        error("gate 999 !", 5, RANGE);
        error("gate ! 999", 5, SYNTAX);
        error("gate 999", 5, RANGE);
        error("gate 999x;", 5, RANGE);
        error("type 0 0 0 0 0;", 5, RANGE);
        error("type 1 999 0 0 0;", 7, RANGE);
        error("gate 2000;gate 999;", 10, REPEATED);
        error("gate 2000;gate", 10, REPEATED);
        error("gate 2000;gate!", 10, REPEATED);
        error("gate 999;gate 2000;", 5, RANGE);
        error("gate 2000;loop 21;gate 2000;", 15, RANGE);
        error(TYPE.repeat(8) + "type 0;", 8 * TYPE.length(), TOO_MANY);
        error("loop 21;" + TYPE.repeat(9), 5, RANGE);
        error(TYPE.repeat(8) + "loop 5;loop 5;" + TYPE, 8 * TYPE.length() + 7, REPEATED);
        error(TYPE.repeat(8) + "loop 5;" + TYPE + "loop 5;", 8 * TYPE.length() + 7, TOO_MANY);
    }

    private static void lowestKind() {
        error("gate 99999;", 5, SYNTAX);
        error("gate 00000;", 5, SYNTAX);
        error("gate 2000 gate 2000;", 10, SYNTAX);
        error("loop 5 loop 5;", 7, SYNTAX);
        error("margin 5 margin 5;", 9, SYNTAX);
        error("gate 2000;loop gate", 15, SYNTAX);
        error("loop 5 9999;", 7, SYNTAX);
        String eight = TYPE.repeat(7) + TYPE.replace(';', ' ');
        error(eight + TYPE, eight.length(), SYNTAX);
        String four = FAKE.repeat(3) + FAKE.replace(';', ' ');
        error(four + FAKE, four.length(), SYNTAX);
        String bins = TYPE + "bin 0 1;".repeat(7) + "bin 0 1 ";
        error(bins + "bin 0 1;", bins.length(), SYNTAX);
    }

    private static void cannotContinue() {
        error("!", 0, SYNTAX);
        error("coin 5;", 0, SYNTAX);
        error("7", 0, SYNTAX);
        error(";", 0, SYNTAX);
        error(" \n gate\n gate", 9, SYNTAX);
        error("gate ;", 5, SYNTAX);
        error("gate 2000 loop 5;", 10, SYNTAX);
        error("gate 2000 2000;", 10, SYNTAX);
        error("gate 2000;" + "5;", 10, SYNTAX);
    }

    private static void endsTooEarly() {
        for (String[] statement : STATEMENTS) {
            for (int numbers = 0; numbers < statement.length; numbers++) {
                String text = begun(statement, numbers);
                error(text, text.length(), SYNTAX);
                error(text + " \n ", text.length() + 3, SYNTAX);
                error("\n" + text + "\n", text.length() + 2, SYNTAX);
            }
        }
        CoinSorter x = new CoinSorter();
        Check.append(x, "gate 2000;loop 5;   ");
        Check.due("the text ends at length, although the buffer goes on", x.parse(16), -2 - (8 * 16 + SYNTAX));
        error("gate 2000;" + " ".repeat(785) + "loop ", 800, SYNTAX);
    }

    private static void outOfRange() {
        error("type 501 2000 50 1000 100;", 5, RANGE);
        error("type 1 4001 50 1000 100;", 7, RANGE);
        error("type 1 2000 201 1000 100;", 12, RANGE);
        error("type 1 2000 50 1000 501;", 20, RANGE);
        error("fake 4001 50 1000 100;", 5, RANGE);
        error("fake 2000 201 1000 100;", 10, RANGE);
        error("fake 2000 50 1000 501;", 18, RANGE);
        error(TYPE + "bin 1 5;", TYPE.length() + 4, RANGE);
        error(TYPE + "bin 0 101;", TYPE.length() + 6, RANGE);
        error("gate\n\n4001;", 6, RANGE);
        error("loop 21;", 5, RANGE);
        error("margin 2001;", 7, RANGE);
        error("margin2001;", 6, RANGE);
        error("gate 0999;", 5, RANGE);
        error("loop 0021;", 5, RANGE);
    }

    private static void repeated() {
        error("gate 2000;\n gate 3000;", 12, REPEATED);
        error("loop 5;loop 6;", 7, REPEATED);
        error("margin 5;margin 6;", 9, REPEATED);
        error("gate 2000;loop 5;margin 5;loop 5;gate 2000;margin 5;", 26, REPEATED);
        error("loop 5;loop 5;loop 5;", 7, REPEATED);
        error("loop 5;loopy 5;", 7, SYNTAX);
        CoinSorter x = Check.machine("gate 2000;loop 5;margin 5;");
        Check.due("the same again in another text", Check.load(x, "gate 2000;loop 5;margin 5;"), 0);
        Check.due("an error with a gate", Check.load(x, "gate 2000;loop 5;margin 5;!"), -2 - (8 * 26 + SYNTAX));
        Check.due("the same again after an error", Check.load(x, "gate 2000;loop 5;margin 5;"), 0);
    }

    private static void tooMany() {
        String full = TYPE.repeat(8) + FAKE.repeat(4) + "bin 0 1;".repeat(8);
        good(full, 8);
        error(full + "type 1 2000 50 1000 100;", full.length(), TOO_MANY);
        error(full + " fake 2000 50 1000 100;", full.length() + 1, TOO_MANY);
        error(full + "\n\nbin 0 1;", full.length() + 2, TOO_MANY);
        CoinSorter x = Check.machine(full);
        Check.due("as many again in another text", Check.load(x, full), 8);
        Check.due("an error after as many", Check.load(x, full + "!"), -2 - (8 * full.length() + SYNTAX));
        Check.due("as many again after an error", Check.load(x, full), 8);
    }

    // ---- promises 1 and 2

    private static void newMachine() {
        CoinSorter x = new CoinSorter();
        Check.due("typeCount", x.typeCount(), 0);
        Check.due("fakeCount", x.fakeCount(), 0);
        Check.due("binCount", x.binCount(), 0);
        Check.due("typeValue", x.typeValue(0), INVALID);
        Check.due("binType", x.binType(0), INVALID);
        Check.due("bagSize", x.bagSize(0), INVALID);
        Check.due("binCoins", x.binCoins(0), INVALID);
        Check.due("binFor", x.binFor(0), INVALID);
        Check.due("hopperSize", x.hopperSize(), 0);
        Check.due("loopSize", x.loopSize(), 0);
        Check.due("stepCount", x.stepCount(), 0);
        Check.due("record", x.record(0), INVALID);
        Check.due("bagCount", x.bagCount(), 0);
        Check.due("sampleCount", x.sampleCount(), 0);
        Check.due("isJammed", x.isJammed(), false);
        Check.due("isStopped", x.isStopped(), false);
        Check.due("margin", x.margin(), 100);
        Check.due("undo", x.undo(), CoinSorter.ABSENT);
        Check.due("slot 0", x.restoreSnapshot(0), false);
        Check.due("slot 1", x.restoreSnapshot(1), false);
        Twins.same("a new object and one with an empty configuration", CoinSorter::new, () -> Check.machine(""));
    }

    private static void newBuffer() {
        Check.due("parse(1) of a new object", new CoinSorter().parse(1), INVALID);
        Check.due("parse(0) of a new object", new CoinSorter().parse(0), 0);
        Check.due("append to a new object", new CoinSorter().append(0, 0, 0, 0, 0), 20);
    }

    /** An illegal byte among spaces is told at its place; its own bits are told by a text. */
    private static void twentyBytes() {
        for (int place = 0; place < 20; place++) {
            for (int sign : new int[] {0, 1, 127, 128, 255}) {
                int[] words = {0x20202020, 0x20202020, 0x20202020, 0x20202020, 0x20202020};
                int shift = 24 - 8 * (place % 4);
                words[place / 4] = words[place / 4] & ~(255 << shift) | sign << shift;
                CoinSorter x = new CoinSorter();
                x.append(words[0], words[1], words[2], words[3], words[4]);
                Check.due("byte " + sign + " at " + place, x.parse(20), -2 - (8 * place + SYNTAX));
            }
        }
        CoinSorter y = new CoinSorter();
        // "margin 1987; loop 0;"
        y.append(0x6d617267, 0x696e2031, 0x3938373b, 0x206c6f6f, 0x7020303b);
        Check.due("parse", y.parse(20), 0);
        Check.due("margin", y.margin(), 1987);
        CoinSorter z = new CoinSorter();
        z.append(0x6d617267, 0x696e2031, 0x39383620, 0x20202020, 0x20202020);
        z.append(0x3b202020, 0x20202020, 0x20202020, 0x20202020, 0xffffffff);
        Check.due("parse of two appends", z.parse(36), 0);
        Check.due("margin", z.margin(), 1986);
    }

    private static void newLength() {
        CoinSorter x = new CoinSorter();
        for (int i = 1; i <= 40; i++) {
            Check.due("append " + i, x.append(-1, 0, Integer.MIN_VALUE, Integer.MAX_VALUE, 1), 20 * i);
        }
    }

    private static void fullBuffer() {
        CoinSorter x = spaces(39);
        Check.append(x, "        margin 1234;");
        Check.due("append to 800 bytes", x.append(-1, -1, -1, -1, -1), FULL);
        Check.due("append again", x.append(-1, -1, -1, -1, -1), FULL);
        Check.due("parse beyond the buffer", x.parse(801), INVALID);
        Check.due("parse beyond the buffer", x.parse(820), INVALID);
        Check.due("parse of the 800 bytes", x.parse(800), 0);
        Check.due("they were not touched", x.margin(), 1234);
        Check.due("append after parse", x.append(-1, -1, -1, -1, -1), 20);
        Twins.same("append to a full buffer", () -> fillBuffer(Machines.busy()), y -> y.append(-1, -1, -1, -1, -1));
    }

    private static CoinSorter fillBuffer(CoinSorter x) {
        for (int i = 0; i < 40; i++) {
            x.append(0x20202020, 0x20202020, 0x20202020, 0x20202020, 0x20202020);
        }
        return x;
    }

    // ---- promise 3

    /** Three texts, one after the other: nothing of the first two is left. */
    private static void replaces() {
        String large = "type 9 1100 9 100 9;".repeat(8) + "fake 1100 9 100 9;".repeat(4) + "bin 7 9;".repeat(8)
            + "gate 1000;loop 0;margin 0;";
        String small = "type 3 1500 20 1000 40;fake 3000 30 1000 50;bin 0 1;";
        Twins.same("two large texts and a small one", () -> Check.machine(small), () -> loaded(large, large, small));
        Twins.same("a small, a large and a small one", () -> Check.machine(small), () -> loaded(small, large, small));
        Twins.same("an error between", () -> Check.machine(small), () -> loaded(large, large + "!", small));
        CoinSorter x = loaded(large, large, small);
        Check.due("score", x.score(0, 1510, 1010), 500 + 250);
        Check.due("bagSize", x.bagSize(0), 1);
        Check.insert(x, 9, 1500, 1000);
        Check.due("a bin of one and a loop of five", x.run(100), 6);
        CoinSorter y = loaded(large, large, small);
        y.insert(4000, 0);
        Check.due("the widest gate", y.step(), CoinSorter.UNKNOWN);
    }

    private static CoinSorter loaded(String... texts) {
        CoinSorter x = new CoinSorter();
        for (String text : texts) {
            Check.load(x, text);
        }
        return x;
    }

    private static void lengths() {
        for (int length = 0; length <= 40; length++) {
            Check.due("parse(" + length + ") of 40 bytes", spaces(2).parse(length), 0);
        }
        Check.due("parse(41) of 40 bytes", spaces(2).parse(41), INVALID);
        Check.due("parse(800) of 800 bytes", spaces(40).parse(800), 0);
        Check.due("parse(801) of 800 bytes", spaces(40).parse(801), INVALID);
        CoinSorter x = new CoinSorter();
        Check.append(x, TYPE + "bin 0 3;!!!!");
        Check.due("only the first bytes are parsed", x.parse(TYPE.length() + 8), 1);
        Check.due("bagSize", x.bagSize(0), 3);
    }

    private static void lengthZero() {
        CoinSorter x = Check.machine(TYPE + FAKE + "bin 0 5;gate 2000;loop 1;margin 7;");
        Check.append(x, "!");
        Check.due("parse(0)", x.parse(0), 0);
        Check.due("typeCount", x.typeCount(), 0);
        Check.due("fakeCount", x.fakeCount(), 0);
        Check.due("binCount", x.binCount(), 0);
        Check.due("margin", x.margin(), 100);
        x.insert(4000, 0);
        Check.due("the gate is unset", x.step(), CoinSorter.UNKNOWN);
        Check.due("parse(0) of an empty buffer", x.parse(0), 0);
    }

    private static void numberOfTypes() {
        for (int types = 0; types <= 8; types++) {
            good(FAKE + TYPE.repeat(types) + "margin 5;", types);
        }
    }

    private static void lengthOutOfRange() {
        for (int length : new int[] {-1, -2, 41, 60, 800, 801, Integer.MIN_VALUE, Integer.MAX_VALUE}) {
            CoinSorter x = new CoinSorter();
            Check.append(x, TYPE + "margin 5;");
            Check.due("parse(" + length + ")", x.parse(length), INVALID);
            Check.due("the buffer's length stays", x.append(0, 0, 0, 0, 0), 60);
            Check.due("the buffer's bytes stay", x.parse(TYPE.length() + 9), 1);
            Check.due("margin", x.margin(), 5);
            Twins.same("parse(" + length + ")", Machines::busy, y -> y.parse(length));
        }
        Check.due("parse(1) of an empty buffer", new CoinSorter().parse(1), INVALID);
        Check.due("parse(-1) of an empty buffer", new CoinSorter().parse(-1), INVALID);
    }

    private static void errorAnswers() {
        Check.due("syntax at 0", Check.load(new CoinSorter(), "!"), -3);
        Check.due("range at 5", Check.load(new CoinSorter(), "loop 21;"), -44);
        Check.due("repeated at 7", Check.load(new CoinSorter(), "loop 2;loop 2;"), -61);
        Check.due("too many at 192", Check.load(new CoinSorter(), TYPE.repeat(9)), -2 - 8 * 192 - 4);
        Check.due("syntax at 799", Check.load(new CoinSorter(), " ".repeat(799) + "!"), -6395);
        Check.due("syntax at 800", Check.load(new CoinSorter(), " ".repeat(796) + "gate"), -6403);
    }

    private static void bufferIsEmpty() {
        for (String text : new String[] {"margin 5;", "margin 5;!", "margin 2001;", "loop 1;loop 1;", TYPE.repeat(9), ""}) {
            CoinSorter x = new CoinSorter();
            Check.append(x, text + " ".repeat(200));
            Check.due("parse answers", x.parse(text.length()) != INVALID, true);
            Check.due("parse(1) after '" + text + "'", x.parse(1), INVALID);
            Check.due("append after '" + text + "'", x.append(0x20202020, 0x20202020, 0x20202020, 0x20202020, 0x20202020), 20);
            Check.due("parse(21) after '" + text + "'", x.parse(21), INVALID);
            Check.due("the old bytes are gone", x.parse(20), 0);
        }
    }

    private static void errorLeavesAll() {
        String syntax = "type 9 1000 5 5 5;fake 1000 5 5 5;bin 0 9;gate 1000;loop 0;margin 1;!";
        String range = "type 9 1000 5 5 5;fake 1000 5 5 5;bin 0 9;gate 1000;loop 0;margin 2001;";
        String repeated = "type 9 1000 5 5 5;fake 1000 5 5 5;bin 0 9;gate 1000;loop 0;margin 1;loop 1;";
        for (String text : new String[] {syntax, range, repeated, "margin 1;" + TYPE.repeat(9), "gate 1000", "margin 1;loop"}) {
            Consumer<CoinSorter> call = x -> Check.due("an error", Check.load(x, text) < -2, true);
            Twins.same("an error", Machines::busyWithoutText, call);
            Twins.same("an error while jammed", Machines::jammedWithoutText, call);
        }
    }

    // ---- promises 4 to 9

    private static void typeCounts() {
        for (int types = 0; types <= 8; types++) {
            CoinSorter x = Check.machine(TYPE.repeat(types));
            Check.due("typeCount", x.typeCount(), types);
            Check.load(x, "!");
            Check.due("typeCount after an error", x.typeCount(), types);
        }
    }

    private static void fakeCounts() {
        for (int fakes = 0; fakes <= 4; fakes++) {
            CoinSorter x = Check.machine(TYPE + FAKE.repeat(fakes));
            Check.due("fakeCount", x.fakeCount(), fakes);
            Check.load(x, FAKE.repeat(5));
            Check.due("fakeCount after an error", x.fakeCount(), fakes);
        }
    }

    private static void binCounts() {
        for (int bins = 0; bins <= 8; bins++) {
            CoinSorter x = Check.machine(TYPE + TYPE + "bin 1 5;".repeat(bins));
            Check.due("binCount", x.binCount(), bins);
            Check.load(x, TYPE + "bin 0 5;".repeat(9));
            Check.due("binCount after an error", x.binCount(), bins);
        }
    }

    private static void noSuchType() {
        for (int types = 0; types <= 8; types++) {
            CoinSorter x = Check.machine(TYPE.repeat(types) + FAKE);
            Check.due("typeValue of the first", x.typeValue(0), types > 0 ? 1 : INVALID);
            Check.due("typeValue of the last", x.typeValue(types - 1), types > 0 ? 1 : INVALID);
            Check.due("typeValue after the last", x.typeValue(types), INVALID);
            for (int wrong : NO_INDEX) {
                Check.due("typeValue " + wrong, x.typeValue(wrong), INVALID);
            }
        }
    }

    private static void noSuchBinType() {
        for (int bins = 0; bins <= 8; bins++) {
            CoinSorter x = Check.machine(TYPE.repeat(3) + "bin 2 7;".repeat(bins));
            Check.due("binType of the first", x.binType(0), bins > 0 ? 2 : INVALID);
            Check.due("binType of the last", x.binType(bins - 1), bins > 0 ? 2 : INVALID);
            Check.due("binType after the last", x.binType(bins), INVALID);
            for (int wrong : NO_INDEX) {
                Check.due("binType " + wrong, x.binType(wrong), INVALID);
            }
        }
    }

    private static void noSuchBagSize() {
        for (int bins = 0; bins <= 8; bins++) {
            CoinSorter x = Check.machine(TYPE.repeat(3) + "bin 2 7;".repeat(bins));
            Check.due("bagSize of the first", x.bagSize(0), bins > 0 ? 7 : INVALID);
            Check.due("bagSize of the last", x.bagSize(bins - 1), bins > 0 ? 7 : INVALID);
            Check.due("bagSize after the last", x.bagSize(bins), INVALID);
            for (int wrong : NO_INDEX) {
                Check.due("bagSize " + wrong, x.bagSize(wrong), INVALID);
            }
        }
    }
}
