import java.util.Arrays;

/**
 * A controller for a coin sorting machine. The document ../shared/DOC.md says
 * what each call answers; a comment here says only why it is done this way.
 *
 * All rows are made in the constructor and used again, so that no later call
 * makes an object (but for an exception that the document asks for).
 */
public final class CoinSorter {

    public static final int INVALID = -1;
    public static final int ABSENT = -2;
    public static final int FULL = -3;
    public static final int LOOP = 20, UNSURE = 21, COUNTERFEIT = 22, UNKNOWN = 23, JAM = 24;

    private static final int MAX_BYTES = 800;
    private static final int APPENDED_BYTES = 20;
    private static final int MAX_TYPES = 8;
    private static final int MAX_FAKES = 4;
    private static final int MAX_BINS = 8;
    private static final int MAX_HOPPER = 60;
    private static final int MAX_LOOP = 20;
    private static final int MAX_RECORDS = 40;
    private static final int MAX_BAGS = 30;
    private static final int MAX_SAMPLES = 40;
    private static final int MAX_UNDO = 12;
    private static final int SLOTS = 2;

    private static final int MAX_DIAMETER = 4000;
    private static final int MAX_ALLOY = 9999;
    private static final int MAX_MARGIN = 2000;
    private static final int MAX_STEPS = 100;
    private static final int MAX_COUNTED = 200;
    private static final int MAX_AMOUNT = 5000;

    private static final int GATE_UNSET = 4000;
    private static final int LOOP_UNSET = 5;
    private static final int MARGIN_UNSET = 100;

    private static final int MAX_DEVIATION = 1000;
    /** The score of a coin that does not fit: far above any real score. */
    private static final int NO_FIT = 1000000;
    private static final int NOT_AUDITED = -1;
    private static final int NO_GENUINE_COIN = -1;

    private final byte[] buffer;
    private int bufferLength;
    private final Parser parser;
    private Config config;
    /** What a parse writes into, so that an error leaves the configuration alone. */
    private Config spareConfig;
    private final State state;
    private final History history;
    private final State[] slots;
    private final boolean[] slotIsSaved;
    private final Judge judge;
    private final Payout payout;
    private final Tuning tuning;

    public CoinSorter() {
        buffer = new byte[MAX_BYTES];
        parser = new Parser();
        config = new Config();
        spareConfig = new Config();
        state = new State();
        history = new History();
        slots = new State[SLOTS];
        for (int slot = 0; slot < SLOTS; slot++) {
            slots[slot] = new State();
        }
        slotIsSaved = new boolean[SLOTS];
        judge = new Judge();
        payout = new Payout();
        tuning = new Tuning();
    }

    // ---- configuration

    public int append(int a, int b, int c, int d, int e) {
        if (bufferLength > MAX_BYTES - APPENDED_BYTES) {
            return FULL;
        }
        appendWord(a);
        appendWord(b);
        appendWord(c);
        appendWord(d);
        appendWord(e);
        return bufferLength;
    }

    private void appendWord(int word) {
        for (int shift = 24; shift >= 0; shift -= 8) {
            if (bufferLength >= 0 && bufferLength < buffer.length) {
                buffer[bufferLength] = (byte) (word >> shift);
                bufferLength++;
            }
        }
    }

    public int parse(int length) {
        if (length < 0 || length > bufferLength) {
            return INVALID;
        }
        bufferLength = 0;
        spareConfig.reset();
        parser.begin(buffer, length);
        // each statement takes a byte at least, so there are no more statements than bytes
        for (int statement = 0; statement <= length && parser.hasStatement(); statement++) {
            parser.readStatement(spareConfig);
        }
        if (parser.error != 0) {
            return -2 - parser.error;
        }
        takeSpareConfig();
        return config.types.count();
    }

    private void takeSpareConfig() {
        Config parsed = spareConfig;
        spareConfig = config;
        config = parsed;
        state.reset(config);
        history.forget();
        for (int slot = 0; slot < SLOTS; slot++) {
            slotIsSaved[slot] = false;
        }
    }

    public int typeCount() {
        return config.types.count();
    }

    public int fakeCount() {
        return config.fakes.count();
    }

    public int binCount() {
        return config.binTypes.size;
    }

    public int typeValue(int type) {
        return config.types.values.at(type);
    }

    public int binType(int bin) {
        return config.binTypes.at(bin);
    }

    public int bagSize(int bin) {
        return config.binSizes.at(bin);
    }

    // ---- classification

    public int score(int type, int diameter, int alloy) throws IndexOutOfBoundsException, IllegalArgumentException {
        if (!isType(type)) {
            throw new IndexOutOfBoundsException("no such type");
        }
        if (!isMeasurement(diameter, alloy)) {
            throw new IllegalArgumentException("measurement out of range");
        }
        int score = config.types.scoreOf(type, diameter + state.diameterOffset, alloy + state.alloyOffset);
        return score == NO_FIT ? ABSENT : score;
    }

    public int classify(int diameter, int alloy) throws IllegalArgumentException {
        if (!isMeasurement(diameter, alloy)) {
            throw new IllegalArgumentException("measurement out of range");
        }
        return verdict(diameter, alloy, state.margin);
    }

    private int verdict(int diameter, int alloy, int margin) {
        judge.examine(config, diameter + state.diameterOffset, alloy + state.alloyOffset);
        return judge.verdictAt(margin);
    }

    private boolean isType(int type) {
        return config.types.values.has(type);
    }

    private static boolean isMeasurement(int diameter, int alloy) {
        return diameter >= 1 && diameter <= MAX_DIAMETER && alloy >= 0 && alloy <= MAX_ALLOY;
    }

    private static boolean isMargin(int margin) {
        return margin >= 0 && margin <= MAX_MARGIN;
    }

    public int diameterOffset() {
        return state.diameterOffset;
    }

    public int alloyOffset() {
        return state.alloyOffset;
    }

    public int margin() {
        return state.margin;
    }

    // ---- the machine

    public int hopperSize() {
        return state.hopper.size;
    }

    public int loopSize() {
        return state.loop.size;
    }

    public int loopType(int position) {
        return state.loop.at(position);
    }

    public boolean isJammed() {
        return state.jammed;
    }

    public boolean isStopped() {
        return !state.jammed && state.hopper.size > 0 && nextOutcome() == ABSENT;
    }

    public int binCoins(int bin) {
        return state.binCoins.at(bin);
    }

    public int binFor(int type) {
        if (!isType(type)) {
            return INVALID;
        }
        int best = ABSENT;
        int fewest = 0;
        for (int bin = 0; bin < config.binTypes.size; bin++) {
            int needed = config.binSizes.at(bin) - state.binCoins.at(bin);
            if (config.binTypes.at(bin) == type && needed > 0 && (best == ABSENT || needed < fewest)) {
                best = bin;
                fewest = needed;
            }
        }
        return best;
    }

    public int rejected(int outcome) {
        return state.rejected.at(rejectIndex(outcome));
    }

    private static int rejectIndex(int outcome) {
        return outcome >= UNSURE && outcome <= JAM ? outcome - UNSURE : INVALID;
    }

    public int stepCount() {
        return state.stepCount;
    }

    public int record(int index) {
        return state.records.at(index);
    }

    public int binValue() {
        int sum = 0;
        for (int bin = 0; bin < config.binTypes.size; bin++) {
            sum += state.binCoins.at(bin) * config.types.values.at(config.binTypes.at(bin));
        }
        return sum;
    }

    // ---- bags and audits

    public int bagCount() {
        return state.bagTypes.size;
    }

    public int bagType(int bag) {
        return state.bagTypes.at(bag);
    }

    public int bagCoins(int bag) {
        return state.bagCoins.at(bag);
    }

    public int discrepancy() {
        int sum = 0;
        for (int bag = 0; bag < state.bagTypes.size; bag++) {
            sum += discrepancyOf(bag);
        }
        return sum;
    }

    private int discrepancyOf(int bag) {
        int counted = state.bagAudits.at(bag);
        if (counted == NOT_AUDITED) {
            return 0;
        }
        return (counted - state.bagCoins.at(bag)) * config.types.values.at(state.bagTypes.at(bag));
    }

    public int worstBag() {
        int worst = ABSENT;
        int greatest = 0;
        for (int bag = 0; bag < state.bagTypes.size; bag++) {
            int part = Math.abs(discrepancyOf(bag));
            if (part > greatest) {
                worst = bag;
                greatest = part;
            }
        }
        return worst;
    }

    // ---- payouts

    public int payoutCoins(int amount) {
        return isAmount(amount) ? planPayout(amount) : INVALID;
    }

    public int payoutOf(int amount, int type) {
        if (!isAmount(amount) || !isType(type)) {
            return INVALID;
        }
        return planPayout(amount) == ABSENT ? ABSENT : payout.coins.at(type);
    }

    private static boolean isAmount(int amount) {
        return amount >= 1 && amount <= MAX_AMOUNT;
    }

    private int planPayout(int amount) {
        payout.takeStock(config, state.binCoins);
        return payout.plan(config.types.values, amount);
    }

    // ---- samples

    public int sampleCount() {
        return state.sampleCoins.size;
    }

    public int sampleCost(int margin) {
        if (!isMargin(margin)) {
            return INVALID;
        }
        int sum = 0;
        for (int sample = 0; sample < state.sampleCoins.size; sample++) {
            int coin = state.sampleCoins.at(sample);
            sum += cost(state.sampleLabels.at(sample), verdict(diameterOf(coin), alloyOf(coin), margin));
        }
        return sum;
    }

    private static int cost(int label, int verdict) {
        boolean isTaken = verdict < LOOP;
        if (label == NO_GENUINE_COIN) {
            return isTaken ? 10 : 0;
        }
        if (verdict == label) {
            return 0;
        }
        return isTaken ? 5 : 1;
    }

    public int bestMargin() {
        tuning.begin();
        for (int sample = 0; sample < state.sampleCoins.size; sample++) {
            int coin = state.sampleCoins.at(sample);
            int label = state.sampleLabels.at(sample);
            int sure = verdict(diameterOf(coin), alloyOf(coin), 0);
            tuning.add(judge.gap, cost(label, UNSURE) - cost(label, sure));
        }
        return tuning.best();
    }

    // ---- changes

    public boolean calibrate(int type, int diameter, int alloy) {
        if (!isType(type) || !isMeasurement(diameter, alloy)) {
            return false;
        }
        history.push(state);
        state.diameterOffset = config.types.diameters.at(type) - diameter;
        state.alloyOffset = config.types.alloys.at(type) - alloy;
        return true;
    }

    public int setMargin(int margin) {
        if (!isMargin(margin)) {
            return INVALID;
        }
        history.push(state);
        int previous = state.margin;
        state.margin = margin;
        return previous;
    }

    public int insert(int diameter, int alloy) {
        if (!isMeasurement(diameter, alloy)) {
            return INVALID;
        }
        if (state.hopper.isFull()) {
            return FULL;
        }
        history.push(state);
        state.hopper.add(coinOf(diameter, alloy));
        return state.hopper.size;
    }

    /** A coin is kept as one number, so that a queue of coins is one row. */
    private static int coinOf(int diameter, int alloy) {
        return diameter * (MAX_ALLOY + 1) + alloy;
    }

    private static int diameterOf(int coin) {
        return coin / (MAX_ALLOY + 1);
    }

    private static int alloyOf(int coin) {
        return coin % (MAX_ALLOY + 1);
    }

    public int step() {
        int outcome = nextOutcome();
        if (outcome != ABSENT) {
            history.push(state);
            move(outcome);
        }
        return outcome;
    }

    public int run(int n) {
        if (n < 1 || n > MAX_STEPS) {
            return INVALID;
        }
        for (int done = 0; done < n; done++) {
            int outcome = nextOutcome();
            if (outcome == ABSENT) {
                return done;
            }
            if (done == 0) {
                history.push(state);
            }
            move(outcome);
        }
        return n;
    }

    /** The outcome that a step would have now; ABSENT if none is possible. Changes nothing. */
    private int nextOutcome() {
        if (state.jammed) {
            return ABSENT;
        }
        int position = nextInLoop();
        if (position != ABSENT) {
            return binFor(state.loop.at(position));
        }
        if (state.hopper.size == 0) {
            return ABSENT;
        }
        int coin = state.hopper.at(0);
        return outcomeOf(diameterOf(coin), alloyOf(coin));
    }

    /** The position in the loop of the oldest coin that a bin can take, or ABSENT. */
    private int nextInLoop() {
        for (int position = 0; position < state.loop.size; position++) {
            if (binFor(state.loop.at(position)) >= 0) {
                return position;
            }
        }
        return ABSENT;
    }

    private int outcomeOf(int diameter, int alloy) {
        if (diameter > config.gate) {
            return JAM;
        }
        int verdict = verdict(diameter, alloy, state.margin);
        if (!isType(verdict)) {
            return verdict;
        }
        if (!hasBin(verdict)) {
            return UNKNOWN;
        }
        int bin = binFor(verdict);
        if (bin >= 0) {
            return bin;
        }
        return state.loop.size < config.loopCapacity ? LOOP : ABSENT;
    }

    private boolean hasBin(int type) {
        for (int bin = 0; bin < config.binTypes.size; bin++) {
            if (config.binTypes.at(bin) == type) {
                return true;
            }
        }
        return false;
    }

    /** Does the step whose outcome nextOutcome has just told. */
    private void move(int outcome) {
        int position = nextInLoop();
        if (position != ABSENT) {
            state.loop.removeAt(position);
        } else {
            int coin = state.hopper.removeAt(0);
            if (outcome == LOOP) {
                state.loop.add(verdict(diameterOf(coin), alloyOf(coin), state.margin));
            }
        }
        if (outcome == JAM) {
            state.jammed = true;
        } else if (outcome > LOOP) {
            state.rejected.increase(rejectIndex(outcome), 1);
        } else if (outcome < LOOP) {
            state.binCoins.increase(outcome, 1);
        }
        state.stepCount++;
        state.addRecord(outcome);
    }

    public boolean clearJam() {
        if (!state.jammed) {
            return false;
        }
        history.push(state);
        state.jammed = false;
        state.rejected.increase(rejectIndex(JAM), 1);
        return true;
    }

    public int changeBag(int bin) {
        if (!config.binTypes.has(bin)) {
            return INVALID;
        }
        int coins = state.binCoins.at(bin);
        if (coins == 0) {
            return ABSENT;
        }
        if (state.bagTypes.isFull()) {
            return FULL;
        }
        history.push(state);
        state.bagTypes.add(config.binTypes.at(bin));
        state.bagCoins.add(coins);
        state.bagAudits.add(NOT_AUDITED);
        state.binCoins.increase(bin, -coins);
        return state.bagTypes.size - 1;
    }

    public int audit(int bag, int counted) throws IndexOutOfBoundsException, IllegalArgumentException, IllegalStateException {
        if (!state.bagTypes.has(bag)) {
            throw new IndexOutOfBoundsException("no such bag");
        }
        if (counted < 0 || counted > MAX_COUNTED) {
            throw new IllegalArgumentException("counted out of range");
        }
        if (state.bagAudits.at(bag) != NOT_AUDITED) {
            throw new IllegalStateException("audited before");
        }
        history.push(state);
        state.bagAudits.put(bag, counted);
        return counted - state.bagCoins.at(bag);
    }

    public int dispense(int amount) {
        if (!isAmount(amount)) {
            return INVALID;
        }
        int coins = planPayout(amount);
        if (coins == ABSENT) {
            return ABSENT;
        }
        history.push(state);
        for (int bin = 0; bin < config.binTypes.size; bin++) {
            int type = config.binTypes.at(bin);
            int taken = Math.min(state.binCoins.at(bin), payout.coins.at(type));
            payout.coins.increase(type, -taken);
            state.binCoins.increase(bin, -taken);
        }
        return coins;
    }

    public int addSample(int diameter, int alloy, int label) {
        if (!isMeasurement(diameter, alloy) || (label != NO_GENUINE_COIN && !isType(label))) {
            return INVALID;
        }
        if (state.sampleCoins.isFull()) {
            return FULL;
        }
        history.push(state);
        state.sampleCoins.add(coinOf(diameter, alloy));
        state.sampleLabels.add(label);
        return state.sampleCoins.size;
    }

    public int undo() {
        return history.pop(state) ? history.count : ABSENT;
    }

    public boolean saveSnapshot(int slot) {
        if (slot < 0 || slot >= SLOTS) {
            return false;
        }
        slots[slot].copyFrom(state);
        slotIsSaved[slot] = true;
        return true;
    }

    public boolean restoreSnapshot(int slot) {
        if (slot < 0 || slot >= SLOTS || !slotIsSaved[slot]) {
            return false;
        }
        state.copyFrom(slots[slot]);
        history.forget();
        return true;
    }

    /** Numbers in order, at most as many as were asked for; looks at every index itself. */
    private static final class Row {
        private final int[] items;
        private int size;

        private Row(int capacity) {
            items = new int[Math.max(0, capacity)];
        }

        private boolean isFull() {
            return size >= items.length;
        }

        private boolean has(int index) {
            return index >= 0 && index < size && index < items.length;
        }

        private int at(int index) {
            return index >= 0 && index < size && index < items.length ? items[index] : INVALID;
        }

        private void put(int index, int item) {
            if (has(index)) {
                items[index] = item;
            }
        }

        private void increase(int index, int difference) {
            if (has(index)) {
                items[index] += difference;
            }
        }

        private void add(int item) {
            if (size >= 0 && size < items.length) {
                items[size] = item;
                size++;
            }
        }

        private int removeAt(int index) {
            if (!has(index)) {
                return INVALID;
            }
            int item = items[index];
            for (int i = index + 1; i < size && i < items.length; i++) {
                items[i - 1] = items[i];
            }
            size--;
            return item;
        }

        private void empty() {
            size = 0;
        }

        private void fillWithZeros(int count) {
            size = Math.max(0, Math.min(count, items.length));
            Arrays.fill(items, 0, size, 0);
        }

        private void copyFrom(Row other) {
            size = Math.max(0, Math.min(other.size, Math.min(other.items.length, items.length)));
            System.arraycopy(other.items, 0, items, 0, size);
        }
    }

    /** Types or fakes: what their coins measure. */
    private static final class Kinds {
        private final Row values;
        private final Row diameters;
        private final Row diameterTolerances;
        private final Row alloys;
        private final Row alloyTolerances;

        private Kinds(int most) {
            values = new Row(most);
            diameters = new Row(most);
            diameterTolerances = new Row(most);
            alloys = new Row(most);
            alloyTolerances = new Row(most);
        }

        private int count() {
            return values.size;
        }

        private void empty() {
            values.empty();
            diameters.empty();
            diameterTolerances.empty();
            alloys.empty();
            alloyTolerances.empty();
        }

        /** The score of a coin with these corrected measurements, or NO_FIT. */
        private int scoreOf(int index, int diameter, int alloy) {
            int ofDiameter = deviation(diameter, diameters.at(index), diameterTolerances.at(index));
            int ofAlloy = deviation(alloy, alloys.at(index), alloyTolerances.at(index));
            return ofDiameter > MAX_DEVIATION || ofAlloy > MAX_DEVIATION ? NO_FIT : ofDiameter + ofAlloy;
        }

        private static int deviation(int corrected, int nominal, int tolerance) {
            if (tolerance < 1) {
                return NO_FIT;
            }
            int difference = corrected < nominal ? nominal - corrected : corrected - nominal;
            return (MAX_DEVIATION * difference + tolerance - 1) / tolerance;
        }
    }

    private static final class Config {
        private final Kinds types;
        private final Kinds fakes;
        private final Row binTypes;
        private final Row binSizes;
        private int gate;
        private int loopCapacity;
        private int margin;

        private Config() {
            types = new Kinds(MAX_TYPES);
            fakes = new Kinds(MAX_FAKES);
            binTypes = new Row(MAX_BINS);
            binSizes = new Row(MAX_BINS);
            gate = GATE_UNSET;
            loopCapacity = LOOP_UNSET;
            margin = MARGIN_UNSET;
        }

        private void reset() {
            types.empty();
            fakes.empty();
            binTypes.empty();
            binSizes.empty();
            gate = GATE_UNSET;
            loopCapacity = LOOP_UNSET;
            margin = MARGIN_UNSET;
        }
    }

    /**
     * Reads a configuration from left to right. Errors are met in the order of
     * their offsets, so the first is the one to tell; after it, every read does
     * nothing, and what stands in the configuration is not used.
     */
    private static final class Parser {
        private static final int SYNTAX = 1, RANGE = 2, REPEATED = 3, TOO_MANY = 4;
        private static final int END = 0, SPACE = 1, WORD = 2, NUMBER = 3, SEMICOLON = 4, ILLEGAL = 5;
        private static final int MAX_LETTERS = 6;
        private static final int MAX_DIGITS = 4;
        private static final int NO_BYTE = -1;

        private byte[] text;
        private int length;
        private int token;
        private int start;
        private int end;
        /** 8 * offset + kind of the first error; 0 without one. */
        private int error;
        private boolean gateIsRead;
        private boolean loopIsRead;
        private boolean marginIsRead;

        private Parser() {
            text = new byte[0];
        }

        private void begin(byte[] bytes, int count) {
            text = bytes;
            length = count;
            end = 0;
            error = 0;
            gateIsRead = false;
            loopIsRead = false;
            marginIsRead = false;
        }

        /** Reads the token that a statement would start with. */
        private boolean hasStatement() {
            if (error != 0) {
                return false;
            }
            readToken();
            return token != END;
        }

        private void readStatement(Config config) {
            if (isWord("type")) {
                readKind(config.types, true);
            } else if (isWord("fake")) {
                readKind(config.fakes, false);
            } else if (isWord("bin")) {
                readBin(config);
            } else if (isWord("gate")) {
                failIf(gateIsRead, REPEATED);
                gateIsRead = true;
                config.gate = readNumber(1000, MAX_DIAMETER);
            } else if (isWord("loop")) {
                failIf(loopIsRead, REPEATED);
                loopIsRead = true;
                config.loopCapacity = readNumber(0, MAX_LOOP);
            } else if (isWord("margin")) {
                failIf(marginIsRead, REPEATED);
                marginIsRead = true;
                config.margin = readNumber(0, MAX_MARGIN);
            } else {
                failIf(true, SYNTAX);
            }
            readSemicolon();
        }

        private void readKind(Kinds kinds, boolean hasValue) {
            failIf(kinds.values.isFull(), TOO_MANY);
            kinds.values.add(hasValue ? readNumber(1, 500) : 0);
            kinds.diameters.add(readNumber(1000, MAX_DIAMETER));
            kinds.diameterTolerances.add(readNumber(1, 200));
            kinds.alloys.add(readNumber(0, MAX_ALLOY));
            kinds.alloyTolerances.add(readNumber(1, 500));
        }

        private void readBin(Config config) {
            failIf(config.binTypes.isFull(), TOO_MANY);
            config.binTypes.add(readNumber(0, config.types.count() - 1));
            config.binSizes.add(readNumber(1, 100));
        }

        private int readNumber(int lowest, int highest) {
            if (error != 0) {
                return lowest;
            }
            readToken();
            failIf(token != NUMBER, SYNTAX);
            int number = number();
            failIf(number < lowest || number > highest, RANGE);
            return number;
        }

        private void readSemicolon() {
            if (error == 0) {
                readToken();
                failIf(token != SEMICOLON, SYNTAX);
            }
        }

        private void failIf(boolean wrong, int kind) {
            if (wrong && error == 0) {
                error = 8 * start + kind;
            }
        }

        private void readToken() {
            start = endOfRun(end, SPACE);
            token = tokenOf(byteAt(start));
            end = start + 1;
            if (token == WORD || token == NUMBER) {
                end = endOfRun(start, token);
                if (end - start > (token == WORD ? MAX_LETTERS : MAX_DIGITS)) {
                    token = ILLEGAL;
                }
            }
        }

        private int endOfRun(int from, int kind) {
            for (int offset = from; offset < length; offset++) {
                if (tokenOf(byteAt(offset)) != kind) {
                    return offset;
                }
            }
            return length;
        }

        private int byteAt(int offset) {
            return offset >= 0 && offset < length && offset < text.length ? text[offset] & 255 : NO_BYTE;
        }

        private static int tokenOf(int sign) {
            if (sign == NO_BYTE) {
                return END;
            }
            if (sign == ' ' || sign == '\n') {
                return SPACE;
            }
            if (sign >= 'a' && sign <= 'z') {
                return WORD;
            }
            if (sign >= '0' && sign <= '9') {
                return NUMBER;
            }
            return sign == ';' ? SEMICOLON : ILLEGAL;
        }

        private boolean isWord(String word) {
            if (token != WORD || end - start != word.length()) {
                return false;
            }
            for (int i = 0; i < word.length(); i++) {
                if (byteAt(start + i) != word.charAt(i)) {
                    return false;
                }
            }
            return true;
        }

        private int number() {
            int number = 0;
            for (int offset = start; offset < end; offset++) {
                number = 10 * number + byteAt(offset) - '0';
            }
            return number;
        }
    }

    /** All that undo and the snapshots bring back. */
    private static final class State {
        private int diameterOffset;
        private int alloyOffset;
        private int margin;
        private boolean jammed;
        private int stepCount;
        private final Row hopper;
        private final Row loop;
        private final Row binCoins;
        private final Row rejected;
        private final Row records;
        private final Row bagTypes;
        private final Row bagCoins;
        private final Row bagAudits;
        private final Row sampleCoins;
        private final Row sampleLabels;

        private State() {
            margin = MARGIN_UNSET;
            hopper = new Row(MAX_HOPPER);
            loop = new Row(MAX_LOOP);
            binCoins = new Row(MAX_BINS);
            rejected = new Row(JAM - UNSURE + 1);
            rejected.fillWithZeros(JAM - UNSURE + 1);
            records = new Row(MAX_RECORDS);
            bagTypes = new Row(MAX_BAGS);
            bagCoins = new Row(MAX_BAGS);
            bagAudits = new Row(MAX_BAGS);
            sampleCoins = new Row(MAX_SAMPLES);
            sampleLabels = new Row(MAX_SAMPLES);
        }

        private void reset(Config config) {
            diameterOffset = 0;
            alloyOffset = 0;
            margin = config.margin;
            jammed = false;
            stepCount = 0;
            hopper.empty();
            loop.empty();
            binCoins.fillWithZeros(config.binTypes.size);
            rejected.fillWithZeros(JAM - UNSURE + 1);
            records.empty();
            bagTypes.empty();
            bagCoins.empty();
            bagAudits.empty();
            sampleCoins.empty();
            sampleLabels.empty();
        }

        private void addRecord(int outcome) {
            if (records.isFull()) {
                records.removeAt(0);
            }
            records.add(outcome);
        }

        private void copyFrom(State other) {
            diameterOffset = other.diameterOffset;
            alloyOffset = other.alloyOffset;
            margin = other.margin;
            jammed = other.jammed;
            stepCount = other.stepCount;
            hopper.copyFrom(other.hopper);
            loop.copyFrom(other.loop);
            binCoins.copyFrom(other.binCoins);
            rejected.copyFrom(other.rejected);
            records.copyFrom(other.records);
            bagTypes.copyFrom(other.bagTypes);
            bagCoins.copyFrom(other.bagCoins);
            bagAudits.copyFrom(other.bagAudits);
            sampleCoins.copyFrom(other.sampleCoins);
            sampleLabels.copyFrom(other.sampleLabels);
        }
    }

    /** The states before the latest changes, in a ring that starts at the oldest. */
    private static final class History {
        private final State[] states;
        private int oldest;
        private int count;

        private History() {
            states = new State[MAX_UNDO];
            for (int i = 0; i < MAX_UNDO; i++) {
                states[i] = new State();
            }
        }

        private void push(State state) {
            states[Math.floorMod(oldest + count, MAX_UNDO)].copyFrom(state);
            if (count < MAX_UNDO) {
                count++;
            } else {
                oldest = (oldest + 1) % MAX_UNDO;
            }
        }

        private boolean pop(State state) {
            if (count == 0) {
                return false;
            }
            count--;
            state.copyFrom(states[Math.floorMod(oldest + count, MAX_UNDO)]);
            return true;
        }

        private void forget() {
            count = 0;
        }
    }

    /** The verdict on one coin, kept so that it can be told for any margin. */
    private static final class Judge {
        /** The verdict at margin 0. */
        private int sure;
        /** The greatest margin at which the verdict is still the same; above it, it is UNSURE. */
        private int gap;

        private void examine(Config config, int diameter, int alloy) {
            int type = UNKNOWN;
            int lowest = NO_FIT;
            int second = NO_FIT;
            for (int i = 0; i < config.types.count(); i++) {
                int score = config.types.scoreOf(i, diameter, alloy);
                if (score < lowest) {
                    type = i;
                    second = lowest;
                    lowest = score;
                } else if (score < second) {
                    second = score;
                }
            }
            int fake = NO_FIT;
            for (int i = 0; i < config.fakes.count(); i++) {
                fake = Math.min(fake, config.fakes.scoreOf(i, diameter, alloy));
            }
            boolean isCounterfeit = fake != NO_FIT && fake <= lowest;
            sure = isCounterfeit ? COUNTERFEIT : type;
            gap = isCounterfeit || second == NO_FIT ? MAX_MARGIN : second - lowest;
        }

        private int verdictAt(int margin) {
            return gap < margin ? UNSURE : sure;
        }
    }

    /** Finds the margin with the least cost, without judging the samples again for each margin. */
    private static final class Tuning {
        private final Row gaps;
        private final Row rises;

        private Tuning() {
            gaps = new Row(MAX_SAMPLES);
            rises = new Row(MAX_SAMPLES);
        }

        private void begin() {
            gaps.empty();
            rises.empty();
        }

        /** Adds a sample whose cost rises by that much (or falls) when the margin is above its gap. */
        private void add(int gap, int rise) {
            gaps.add(gap);
            rises.add(rise);
        }

        /** Only a margin just above a gap can cost less than the margins below it. */
        private int best() {
            int best = 0;
            int least = 0;
            for (int i = 0; i < gaps.size; i++) {
                int margin = gaps.at(i) + 1;
                int rise = riseAt(margin);
                if (margin <= MAX_MARGIN && (rise < least || (rise == least && margin < best))) {
                    best = margin;
                    least = rise;
                }
            }
            return best;
        }

        private int riseAt(int margin) {
            int sum = 0;
            for (int i = 0; i < gaps.size; i++) {
                if (gaps.at(i) < margin) {
                    sum += rises.at(i);
                }
            }
            return sum;
        }
    }

    /**
     * Finds the payout of an amount. The stock is read as the digits of a number,
     * type 0 first: a coin of a type has the place value of its digit, and "whole"
     * is above every such number. A coin weighs the whole less its place value. So
     * the lightest payout has the fewest coins and, of those, the most coins of type
     * 0, then of type 1 and so on; and its weight tells how many it has of each type.
     *
     * At most 800 coins are in the bins, so the whole is at most 101 to the power
     * of 8, and 801 times that is still a long.
     */
    private static final class Payout {
        private static final long NO_WEIGHT = -1;
        /** Ten packets make up to 1023 coins, and the bins hold no more than 800. */
        private static final int PACKETS = 10;

        private final int[] stock;
        private final long[] places;
        private final long[] weights;
        private long whole;
        /** How many coins of each type the latest plan has. */
        private final Row coins;

        private Payout() {
            stock = new int[MAX_TYPES];
            places = new long[MAX_TYPES];
            weights = new long[MAX_AMOUNT + 1];
            coins = new Row(MAX_TYPES);
        }

        private void takeStock(Config config, Row binCoins) {
            Arrays.fill(stock, 0);
            for (int bin = 0; bin < binCoins.size; bin++) {
                int type = config.binTypes.at(bin);
                if (type >= 0 && type < MAX_TYPES) {
                    stock[type] += binCoins.at(bin);
                }
            }
            whole = 1;
            for (int type = MAX_TYPES - 1; type >= 0; type--) {
                places[type] = whole;
                whole *= stock[type] + 1;
            }
        }

        /** Returns the number of coins, or ABSENT. */
        private int plan(Row values, int amount) {
            if (amount < 0 || amount > MAX_AMOUNT) {
                return ABSENT;
            }
            Arrays.fill(weights, 0, amount + 1, NO_WEIGHT);
            weights[0] = 0;
            int reach = 0;
            for (int type = 0; type < MAX_TYPES; type++) {
                int value = values.at(type);
                if (stock[type] > 0 && value > 0) {
                    reach = Math.min(amount, reach + stock[type] * value);
                    weighType(stock[type], value, whole - places[type], reach);
                }
            }
            return weights[amount] == NO_WEIGHT ? ABSENT : readCoins(weights[amount]);
        }

        /** Packets of 1, 2, 4 .. coins and the rest make every number of coins, in few rounds. */
        private void weighType(int count, int value, long weight, int reach) {
            int left = count;
            for (int round = 0; round < PACKETS; round++) {
                int packet = Math.min(1 << round, left);
                weighPacket(packet * value, packet * weight, reach);
                left -= packet;
            }
        }

        /** Downwards, so that the packet is used once at most. */
        private void weighPacket(int value, long weight, int reach) {
            for (int sum = Math.min(reach, MAX_AMOUNT); sum >= value && value > 0; sum--) {
                long before = weights[sum - value];
                if (before != NO_WEIGHT && (weights[sum] == NO_WEIGHT || before + weight < weights[sum])) {
                    weights[sum] = before + weight;
                }
            }
        }

        private int readCoins(long weight) {
            if (whole < 1) {
                return ABSENT;
            }
            long count = (weight + whole - 1) / whole;
            long digits = count * whole - weight;
            coins.empty();
            for (int type = 0; type < MAX_TYPES; type++) {
                long place = places[type];
                if (place < 1) {
                    return ABSENT;
                }
                coins.add((int) (digits / place));
                digits %= place;
            }
            return (int) count;
        }
    }
}
