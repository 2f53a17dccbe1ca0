import java.util.ArrayList;
import java.util.Arrays;
import java.util.Collections;
import java.util.LinkedList;
import java.util.List;
import java.util.Map;
import java.util.TreeMap;
import java.util.regex.Matcher;
import java.util.regex.Pattern;

/**
 * The document once more, written as plainly as the Java library allows and without
 * a thought for room or speed, so that ModelTest can hold the program against it.
 */
final class Model {
    /** A type or a fake; a fake's value is 0. */
    record Kind(int value, int diameter, int diameterTolerance, int alloy, int alloyTolerance) {
        /** The score, or null if the coin does not fit. */
        Integer score(int diameter, int alloy) {
            long a = ceiling(1000L * Math.abs(diameter - this.diameter), diameterTolerance);
            long b = ceiling(1000L * Math.abs(alloy - this.alloy), alloyTolerance);
            return a <= 1000 && b <= 1000 ? (int) (a + b) : null;
        }

        private static long ceiling(long number, long divisor) {
            return number / divisor + (number % divisor == 0 ? 0 : 1);
        }
    }

    record Bin(int type, int size) {
    }

    record Coin(int diameter, int alloy) {
    }

    record Bag(int type, int coins, Integer counted) {
    }

    record Sample(Coin coin, int label) {
    }

    static final class Config {
        final List<Kind> types = new ArrayList<>();
        final List<Kind> fakes = new ArrayList<>();
        final List<Bin> bins = new ArrayList<>();
        final Map<String, Integer> settings = new TreeMap<>();

        int setting(String word, int unset) {
            return settings.getOrDefault(word, unset);
        }
    }

    static final class Data {
        int diameterOffset;
        int alloyOffset;
        int margin = 100;
        boolean jammed;
        final LinkedList<Coin> hopper = new LinkedList<>();
        final LinkedList<Integer> loop = new LinkedList<>();
        final List<Integer> outcomes = new ArrayList<>();
        final List<Integer> coins = new ArrayList<>();
        final List<Integer> tray = new ArrayList<>();
        final List<Bag> bags = new ArrayList<>();
        final List<Sample> samples = new ArrayList<>();

        Data copy() {
            Data copy = new Data();
            copy.diameterOffset = diameterOffset;
            copy.alloyOffset = alloyOffset;
            copy.margin = margin;
            copy.jammed = jammed;
            copy.hopper.addAll(hopper);
            copy.loop.addAll(loop);
            copy.outcomes.addAll(outcomes);
            copy.coins.addAll(coins);
            copy.tray.addAll(tray);
            copy.bags.addAll(bags);
            copy.samples.addAll(samples);
            return copy;
        }
    }

    private String buffer = "";
    Config config = new Config();
    Data data = new Data();
    private final LinkedList<Data> history = new LinkedList<>();
    private final Data[] slots = new Data[2];

    private void change() {
        history.addLast(data.copy());
        if (history.size() > 12) {
            history.removeFirst();
        }
    }

    int append(int a, int b, int c, int d, int e) {
        if (buffer.length() + 20 > 800) {
            return -3;
        }
        for (int word : new int[] {a, b, c, d, e}) {
            for (int i = 3; i >= 0; i--) {
                buffer += (char) (word >>> 8 * i & 255);
            }
        }
        return buffer.length();
    }

    private record Token(String text, int offset) {
    }

    private static final class Wrong extends Exception {
        private static final long serialVersionUID = 1;
        final int answer;

        Wrong(int offset, int kind) {
            answer = -2 - (8 * offset + kind);
        }
    }

    int parse(int length) {
        if (length < 0 || length > buffer.length()) {
            return -1;
        }
        String text = buffer.substring(0, length);
        buffer = "";
        try {
            config = read(text);
        } catch (Wrong wrong) {
            return wrong.answer;
        }
        data = new Data();
        data.margin = config.setting("margin", 100);
        config.bins.forEach(bin -> data.coins.add(0));
        history.clear();
        Arrays.fill(slots, null);
        return config.types.size();
    }

    private static Config read(String text) throws Wrong {
        LinkedList<Token> tokens = new LinkedList<>();
        Matcher matcher = Pattern.compile("[a-z]+|[0-9]+|[^a-z0-9 \n]").matcher(text);
        while (matcher.find()) {
            tokens.add(new Token(matcher.group(), matcher.start()));
        }
        tokens.add(new Token("", text.length()));
        Config config = new Config();
        while (!tokens.getFirst().text.isEmpty()) {
            statement(config, tokens);
            Token last = tokens.removeFirst();
            if (!last.text.equals(";")) {
                throw new Wrong(last.offset, 1);
            }
        }
        return config;
    }

    private static void statement(Config config, LinkedList<Token> tokens) throws Wrong {
        Token word = tokens.removeFirst();
        switch (word.text) {
            case "type" -> {
                atMost(config.types.size(), 7, word);
                int[] n = numbers(tokens, 1, 500, 1000, 4000, 1, 200, 0, 9999, 1, 500);
                config.types.add(new Kind(n[0], n[1], n[2], n[3], n[4]));
            }
            case "fake" -> {
                atMost(config.fakes.size(), 3, word);
                int[] n = numbers(tokens, 1000, 4000, 1, 200, 0, 9999, 1, 500);
                config.fakes.add(new Kind(0, n[0], n[1], n[2], n[3]));
            }
            case "bin" -> {
                atMost(config.bins.size(), 7, word);
                int[] n = numbers(tokens, 0, config.types.size() - 1, 1, 100);
                config.bins.add(new Bin(n[0], n[1]));
            }
            case "gate" -> setting(config, word, numbersOnce(config, word, tokens, 1000, 4000));
            case "loop" -> setting(config, word, numbersOnce(config, word, tokens, 0, 20));
            case "margin" -> setting(config, word, numbersOnce(config, word, tokens, 0, 2000));
            default -> throw new Wrong(word.offset, 1);
        }
    }

    private static void setting(Config config, Token word, int number) {
        config.settings.put(word.text, number);
    }

    private static int numbersOnce(Config config, Token word, LinkedList<Token> tokens, int low, int high) throws Wrong {
        if (config.settings.containsKey(word.text)) {
            throw new Wrong(word.offset, 3);
        }
        return numbers(tokens, low, high)[0];
    }

    private static void atMost(int count, int most, Token word) throws Wrong {
        if (count > most) {
            throw new Wrong(word.offset, 4);
        }
    }

    private static int[] numbers(LinkedList<Token> tokens, int... ranges) throws Wrong {
        int[] numbers = new int[ranges.length / 2];
        for (int i = 0; i < numbers.length; i++) {
            Token token = tokens.removeFirst();
            if (!token.text.matches("[0-9]{1,4}")) {
                throw new Wrong(token.offset, 1);
            }
            numbers[i] = Integer.parseInt(token.text);
            if (numbers[i] < ranges[2 * i] || numbers[i] > ranges[2 * i + 1]) {
                throw new Wrong(token.offset, 2);
            }
        }
        return numbers;
    }

    int typeCount() {
        return config.types.size();
    }

    int fakeCount() {
        return config.fakes.size();
    }

    int binCount() {
        return config.bins.size();
    }

    private static boolean in(int index, List<?> list) {
        return index >= 0 && index < list.size();
    }

    int typeValue(int type) {
        return in(type, config.types) ? config.types.get(type).value : -1;
    }

    int binType(int bin) {
        return in(bin, config.bins) ? config.bins.get(bin).type : -1;
    }

    int bagSize(int bin) {
        return in(bin, config.bins) ? config.bins.get(bin).size : -1;
    }

    private static boolean measured(int diameter, int alloy) {
        return 1 <= diameter && diameter <= 4000 && 0 <= alloy && alloy <= 9999;
    }

    int score(int type, int diameter, int alloy) {
        if (!in(type, config.types)) {
            throw new IndexOutOfBoundsException();
        }
        if (!measured(diameter, alloy)) {
            throw new IllegalArgumentException();
        }
        Integer score = scores(List.of(config.types.get(type)), new Coin(diameter, alloy)).get(0);
        return score == null ? -2 : score;
    }

    private List<Integer> scores(List<Kind> kinds, Coin coin) {
        List<Integer> scores = new ArrayList<>();
        for (Kind kind : kinds) {
            scores.add(kind.score(coin.diameter + data.diameterOffset, coin.alloy + data.alloyOffset));
        }
        return scores;
    }

    int classify(int diameter, int alloy) {
        if (!measured(diameter, alloy)) {
            throw new IllegalArgumentException();
        }
        return verdict(new Coin(diameter, alloy), data.margin);
    }

    private int verdict(Coin coin, int margin) {
        List<Integer> scores = scores(config.types, coin);
        List<Integer> types = new ArrayList<>(scores);
        List<Integer> fakes = scores(config.fakes, coin);
        types.removeIf(score -> score == null);
        fakes.removeIf(score -> score == null);
        Collections.sort(types);
        Collections.sort(fakes);
        if (!fakes.isEmpty() && types.stream().noneMatch(score -> score < fakes.get(0))) {
            return 22;
        }
        if (types.isEmpty()) {
            return 23;
        }
        if (types.size() >= 2 && types.get(1) - types.get(0) < margin) {
            return 21;
        }
        return scores.indexOf(types.get(0));
    }

    int diameterOffset() {
        return data.diameterOffset;
    }

    int alloyOffset() {
        return data.alloyOffset;
    }

    int margin() {
        return data.margin;
    }

    int hopperSize() {
        return data.hopper.size();
    }

    int loopSize() {
        return data.loop.size();
    }

    int loopType(int position) {
        return in(position, data.loop) ? data.loop.get(position) : -1;
    }

    boolean isJammed() {
        return data.jammed;
    }

    boolean isStopped() {
        Data before = data.copy();
        boolean stopped = !data.jammed && doStep() == -2 && !data.hopper.isEmpty();
        data = before;
        return stopped;
    }

    int binCoins(int bin) {
        return in(bin, config.bins) ? data.coins.get(bin) : -1;
    }

    int binFor(int type) {
        return in(type, config.types) ? openBin(type) : -1;
    }

    private int openBin(int type) {
        for (int needed = 1; needed <= 100; needed++) {
            for (int bin = 0; bin < config.bins.size(); bin++) {
                if (config.bins.get(bin).type == type && config.bins.get(bin).size - data.coins.get(bin) == needed) {
                    return bin;
                }
            }
        }
        return -2;
    }

    int rejected(int outcome) {
        return outcome >= 21 && outcome <= 24 ? Collections.frequency(data.tray, outcome) : -1;
    }

    int stepCount() {
        return data.outcomes.size();
    }

    int record(int index) {
        List<Integer> kept = data.outcomes.subList(Math.max(0, data.outcomes.size() - 40), data.outcomes.size());
        return in(index, kept) ? kept.get(index) : -1;
    }

    int binValue() {
        int sum = 0;
        for (int bin = 0; bin < config.bins.size(); bin++) {
            sum += data.coins.get(bin) * config.types.get(config.bins.get(bin).type).value;
        }
        return sum;
    }

    int bagCount() {
        return data.bags.size();
    }

    int bagType(int bag) {
        return in(bag, data.bags) ? data.bags.get(bag).type : -1;
    }

    int bagCoins(int bag) {
        return in(bag, data.bags) ? data.bags.get(bag).coins : -1;
    }

    private int part(Bag bag) {
        return bag.counted == null ? 0 : (bag.counted - bag.coins) * config.types.get(bag.type).value;
    }

    int discrepancy() {
        return data.bags.stream().mapToInt(this::part).sum();
    }

    int worstBag() {
        int greatest = data.bags.stream().mapToInt(bag -> Math.abs(part(bag))).max().orElse(0);
        for (int bag = 0; bag < data.bags.size() && greatest > 0; bag++) {
            if (Math.abs(part(data.bags.get(bag))) == greatest) {
                return bag;
            }
        }
        return -2;
    }

    /** For each amount up to the one asked for, the best payout with the types so far, or null. */
    private int[] bestPayout(int amount) {
        int[][] best = new int[amount + 1][];
        best[0] = new int[config.types.size()];
        for (int type = 0; type < config.types.size(); type++) {
            int stock = 0;
            for (int bin = 0; bin < config.bins.size(); bin++) {
                stock += config.bins.get(bin).type == type ? data.coins.get(bin) : 0;
            }
            int[][] next = new int[amount + 1][];
            for (int sum = 0; sum <= amount; sum++) {
                for (int count = 0; count <= stock && count * config.types.get(type).value <= sum; count++) {
                    int[] before = best[sum - count * config.types.get(type).value];
                    if (before != null) {
                        int[] with = before.clone();
                        with[type] = count;
                        next[sum] = next[sum] == null || isBetter(with, next[sum]) ? with : next[sum];
                    }
                }
            }
            best = next;
        }
        return best[amount];
    }

    private static boolean isBetter(int[] a, int[] b) {
        int difference = Arrays.stream(a).sum() - Arrays.stream(b).sum();
        return difference < 0 || difference == 0 && Arrays.compare(a, b) > 0;
    }

    int payoutCoins(int amount) {
        if (amount < 1 || amount > 5000) {
            return -1;
        }
        int[] payout = bestPayout(amount);
        return payout == null ? -2 : Arrays.stream(payout).sum();
    }

    int payoutOf(int amount, int type) {
        if (amount < 1 || amount > 5000 || !in(type, config.types)) {
            return -1;
        }
        int[] payout = bestPayout(amount);
        return payout == null ? -2 : payout[type];
    }

    int sampleCount() {
        return data.samples.size();
    }

    int sampleCost(int margin) {
        if (margin < 0 || margin > 2000) {
            return -1;
        }
        int sum = 0;
        for (Sample sample : data.samples) {
            int verdict = verdict(sample.coin, margin);
            if (sample.label == -1) {
                sum += verdict < 20 ? 10 : 0;
            } else if (verdict != sample.label) {
                sum += verdict < 20 ? 5 : 1;
            }
        }
        return sum;
    }

    int bestMargin() {
        int best = 0;
        int least = sampleCost(0);
        for (int margin = 1; margin <= 2000; margin++) {
            int cost = sampleCost(margin);
            if (cost < least) {
                best = margin;
                least = cost;
            }
        }
        return best;
    }

    boolean calibrate(int type, int diameter, int alloy) {
        if (!in(type, config.types) || !measured(diameter, alloy)) {
            return false;
        }
        change();
        data.diameterOffset = config.types.get(type).diameter - diameter;
        data.alloyOffset = config.types.get(type).alloy - alloy;
        return true;
    }

    int setMargin(int margin) {
        if (margin < 0 || margin > 2000) {
            return -1;
        }
        change();
        int previous = data.margin;
        data.margin = margin;
        return previous;
    }

    int insert(int diameter, int alloy) {
        if (!measured(diameter, alloy)) {
            return -1;
        }
        if (data.hopper.size() >= 60) {
            return -3;
        }
        change();
        data.hopper.add(new Coin(diameter, alloy));
        return data.hopper.size();
    }

    int step() {
        Data before = data.copy();
        int outcome = doStep();
        if (outcome != -2) {
            remember(before);
        }
        return outcome;
    }

    private void remember(Data before) {
        Data after = data;
        data = before;
        change();
        data = after;
    }

    private int doStep() {
        if (data.jammed) {
            return -2;
        }
        for (int i = 0; i < data.loop.size(); i++) {
            int bin = openBin(data.loop.get(i));
            if (bin >= 0) {
                data.loop.remove(i);
                return toBin(bin);
            }
        }
        if (data.hopper.isEmpty()) {
            return -2;
        }
        Coin coin = data.hopper.getFirst();
        if (coin.diameter > config.setting("gate", 4000)) {
            data.hopper.removeFirst();
            data.jammed = true;
            return done(24);
        }
        return sort(verdict(coin, data.margin));
    }

    private int sort(int verdict) {
        if (verdict >= 20 || config.bins.stream().noneMatch(bin -> bin.type == verdict)) {
            data.hopper.removeFirst();
            data.tray.add(verdict >= 20 ? verdict : 23);
            return done(verdict >= 20 ? verdict : 23);
        }
        int bin = openBin(verdict);
        if (bin >= 0) {
            data.hopper.removeFirst();
            return toBin(bin);
        }
        if (data.loop.size() >= config.setting("loop", 5)) {
            return -2;
        }
        data.hopper.removeFirst();
        data.loop.add(verdict);
        return done(20);
    }

    private int toBin(int bin) {
        data.coins.set(bin, data.coins.get(bin) + 1);
        return done(bin);
    }

    private int done(int outcome) {
        data.outcomes.add(outcome);
        return outcome;
    }

    int run(int n) {
        if (n < 1 || n > 100) {
            return -1;
        }
        Data before = data.copy();
        int done = 0;
        while (done < n && doStep() != -2) {
            done++;
        }
        if (done > 0) {
            remember(before);
        }
        return done;
    }

    boolean clearJam() {
        if (!data.jammed) {
            return false;
        }
        change();
        data.jammed = false;
        data.tray.add(24);
        return true;
    }

    int changeBag(int bin) {
        if (!in(bin, config.bins)) {
            return -1;
        }
        if (data.coins.get(bin) == 0) {
            return -2;
        }
        if (data.bags.size() >= 30) {
            return -3;
        }
        change();
        data.bags.add(new Bag(config.bins.get(bin).type, data.coins.get(bin), null));
        data.coins.set(bin, 0);
        return data.bags.size() - 1;
    }

    int audit(int number, int counted) {
        if (!in(number, data.bags)) {
            throw new IndexOutOfBoundsException();
        }
        if (counted < 0 || counted > 200) {
            throw new IllegalArgumentException();
        }
        Bag bag = data.bags.get(number);
        if (bag.counted != null) {
            throw new IllegalStateException();
        }
        change();
        data.bags.set(number, new Bag(bag.type, bag.coins, counted));
        return counted - bag.coins;
    }

    int dispense(int amount) {
        if (amount < 1 || amount > 5000) {
            return -1;
        }
        int[] payout = bestPayout(amount);
        if (payout == null) {
            return -2;
        }
        change();
        int coins = Arrays.stream(payout).sum();
        for (int bin = 0; bin < config.bins.size(); bin++) {
            int type = config.bins.get(bin).type;
            while (payout[type] > 0 && data.coins.get(bin) > 0) {
                payout[type]--;
                data.coins.set(bin, data.coins.get(bin) - 1);
            }
        }
        return coins;
    }

    int addSample(int diameter, int alloy, int label) {
        if (!measured(diameter, alloy) || label < -1 || label >= config.types.size()) {
            return -1;
        }
        if (data.samples.size() >= 40) {
            return -3;
        }
        change();
        data.samples.add(new Sample(new Coin(diameter, alloy), label));
        return data.samples.size();
    }

    int undo() {
        if (history.isEmpty()) {
            return -2;
        }
        data = history.removeLast();
        return history.size();
    }

    boolean saveSnapshot(int slot) {
        if (slot != 0 && slot != 1) {
            return false;
        }
        slots[slot] = data.copy();
        return true;
    }

    boolean restoreSnapshot(int slot) {
        if (slot != 0 && slot != 1 || slots[slot] == null) {
            return false;
        }
        data = slots[slot].copy();
        history.clear();
        return true;
    }
}
