import java.util.function.Consumer;
import java.util.function.Supplier;

/** The boundary cases of changes, undo and snapshots: promises 46 to 48, and what the description says of changes. */
final class ChangeLimits {
    private static final int ABSENT = CoinSorter.ABSENT;
    private static final int[] NO_SLOT = {-1, 2, 3, Integer.MIN_VALUE, Integer.MAX_VALUE};

    private ChangeLimits() {
    }

    static void test() {
        changes();
        parse();
        undo();
        snapshots();
    }

    private static void says(String words, Runnable body) {
        Sentences.test(Sentences.DESCRIPTION, words, body);
    }

    private static void changes() {
        says("The methods from calibrate to addSample change the data if they succeed.", ChangeLimits::everyChange);
        says("The latest 12 changes can be undone, the latest first.", ChangeLimits::latest12);
        says("There are two snapshot slots, 0 and 1;", ChangeLimits::twoSlots);
        says("a snapshot holds everything", ChangeLimits::everything);
        says("but the configuration,", ChangeLimits::butTheConfiguration);
        says("the input buffer,", ChangeLimits::butTheBuffer);
        says("the undo history", ChangeLimits::butTheHistory);
        says("and the slots.", ChangeLimits::butTheSlots);
    }

    private static void parse() {
        says("A successful parse empties the machine (no coins, bags, records and samples, not jammed, offsets 0, all counts 0),",
            ChangeLimits::parseEmpties);
        says("sets the margin to that of the configuration,", ChangeLimits::parseSetsTheMargin);
        says("clears the undo history", ChangeLimits::parseClearsTheHistory);
        says("and empties both slots.", ChangeLimits::parseEmptiesTheSlots);
    }

    private static void undo() {
        Sentences.test(46, "Undoes the latest change that has not been undone.", ChangeLimits::latestNotUndone);
        Sentences.test(46, "Returns the number of changes that can still be undone;", ChangeLimits::stillUndone);
        Sentences.test(46, "ABSENT if there was none to undo.", ChangeLimits::noneToUndo);
    }

    private static void snapshots() {
        Sentences.test(47, "Saves a snapshot, in place of what the slot held before.", ChangeLimits::inPlace);
        Sentences.test(47, "0 or 1", ChangeLimits::saveInSlots);
        Sentences.test(47, "Returns true; false if there is no such slot.", ChangeLimits::saveRefuses);
        Sentences.test(48, "Restores a snapshot and clears the undo history.", ChangeLimits::restoreClears);
        Sentences.test(48, "The snapshot stays in its slot.", ChangeLimits::staysInItsSlot);
        Sentences.test(48, "0 or 1", ChangeLimits::restoreFromSlots);
        Sentences.test(48, "Returns true; false, with nothing changed, if there is no such slot", ChangeLimits::restoreNoSlot);
        Sentences.test(48, "or it is empty.", ChangeLimits::restoreEmptySlot);
    }

    // ---- what the tests are made of

    /** A busy machine whose history has three changes: two coins in the hopper, the first too wide, and a margin. */
    private static CoinSorter threeChanges() {
        CoinSorter x = Machines.busy();
        x.restoreSnapshot(1);
        x.insert(3600, 1000);
        x.insert(2000, 1000);
        x.setMargin(150);
        return x;
    }

    private static CoinSorter stuck() {
        CoinSorter x = threeChanges();
        x.undo();
        x.step();
        return x;
    }

    /** A new object, whose margin was set to 1, 2 and so on. */
    private static CoinSorter margins(int changes) {
        CoinSorter x = new CoinSorter();
        for (int i = 1; i <= changes; i++) {
            x.setMargin(i);
        }
        return x;
    }

    private static void undone(String name, Supplier<CoinSorter> maker, Consumer<CoinSorter> change) {
        CoinSorter x = maker.get();
        String before = Sight.of(x);
        change.accept(x);
        Check.due(name + " shows", Sight.of(x).equals(before), false);
        isOneChange(name, maker, change);
    }

    private static void isOneChange(String name, Supplier<CoinSorter> maker, Consumer<CoinSorter> change) {
        Twins.same(name + " is undone", maker, x -> {
            change.accept(x);
            Check.due("undo of " + name, x.undo(), 3);
        }, x -> { });
    }

    // ---- changes

    private static void everyChange() {
        undone("calibrate", ChangeLimits::threeChanges, x -> x.calibrate(1, 1999, 999));
        undone("setMargin", ChangeLimits::threeChanges, x -> x.setMargin(5));
        undone("insert", ChangeLimits::threeChanges, x -> x.insert(5, 5));
        undone("step", ChangeLimits::threeChanges, CoinSorter::step);
        undone("run", ChangeLimits::threeChanges, x -> x.run(100));
        undone("clearJam", ChangeLimits::stuck, CoinSorter::clearJam);
        undone("changeBag", ChangeLimits::threeChanges, x -> x.changeBag(0));
        undone("audit", ChangeLimits::threeChanges, x -> x.audit(1, 4));
        undone("dispense", ChangeLimits::threeChanges, x -> x.dispense(21));
        undone("addSample", ChangeLimits::threeChanges, x -> x.addSample(2510, 1000, 3));
        isOneChange("calibrate to the same offsets", ChangeLimits::threeChanges, x -> x.calibrate(0, 1500, 1000));
        isOneChange("setMargin to the same margin", ChangeLimits::threeChanges, x -> x.setMargin(150));
        isOneChange("an audit that finds no difference", ChangeLimits::threeChanges, x -> x.audit(1, 3));
        Twins.same("a sample in place of an undone one", ChangeLimits::threeChanges, x -> {
            x.addSample(2000, 1000, 0);
            x.undo();
            x.addSample(2000, 1000, -1);
        }, x -> x.addSample(2000, 1000, -1));
        Twins.same("looking is no change", ChangeLimits::threeChanges, ChangeLimits::look);
    }

    private static void look(CoinSorter x) {
        Sight.shortly(x);
        x.typeValue(0);
        x.binType(0);
        x.bagSize(0);
        x.score(0, 1500, 1000);
        x.classify(1500, 1000);
        x.binFor(0);
        x.bagType(0);
        x.bagCoins(0);
        x.payoutOf(21, 0);
    }

    private static void latest12() {
        for (int changes = 0; changes <= 40; changes++) {
            CoinSorter x = margins(changes);
            for (int left = Math.min(changes, 12) - 1; left >= 0; left--) {
                Check.due("undo after " + changes, x.undo(), left);
                int before = changes - Math.min(changes, 12) + left;
                Check.due("margin", x.margin(), before == 0 ? 100 : before);
            }
            Check.due("one more after " + changes, x.undo(), ABSENT);
        }
    }

    private static void twoSlots() {
        CoinSorter x = margins(1);
        Check.due("save in 0", x.saveSnapshot(0), true);
        x.setMargin(2);
        Check.due("save in 1", x.saveSnapshot(1), true);
        Check.due("no third", x.saveSnapshot(2), false);
        x.setMargin(3);
        Check.due("restore from 0", x.restoreSnapshot(0), true);
        Check.due("margin", x.margin(), 1);
        Check.due("restore from 1", x.restoreSnapshot(1), true);
        Check.due("margin", x.margin(), 2);
    }

    private static void everything() {
        Twins.same("a snapshot of a busy machine", () -> savedAndRestored(Machines.busy(), x -> { }),
            () -> savedAndRestored(Machines.busy(), ChangeLimits::changeAll));
        Twins.same("a snapshot of a jammed machine", () -> savedAndRestored(Machines.jammed(), x -> { }),
            () -> savedAndRestored(Machines.jammed(), ChangeLimits::changeAll));
        Twins.same("a snapshot of a full hopper", () -> savedAndRestored(Machines.fullHopper(), x -> { }),
            () -> savedAndRestored(Machines.fullHopper(), ChangeLimits::changeAll));
        Twins.same("a snapshot of 30 bags", () -> savedAndRestored(Machines.fullBags(), x -> { }),
            () -> savedAndRestored(Machines.fullBags(), ChangeLimits::changeAll));
        Twins.same("a snapshot of 40 samples", () -> savedAndRestored(Machines.fullSamples(), x -> { }),
            () -> savedAndRestored(Machines.fullSamples(), ChangeLimits::changeAll));
    }

    private static CoinSorter savedAndRestored(CoinSorter x, Consumer<CoinSorter> meanwhile) {
        x.saveSnapshot(0);
        meanwhile.accept(x);
        x.restoreSnapshot(0);
        return x;
    }

    private static void changeAll(CoinSorter x) {
        x.clearJam();
        x.run(100);
        x.clearJam();
        x.run(100);
        x.changeBag(0);
        if (x.bagCount() > 1) {
            Check.due("an audit", x.audit(1, 9) > 0, true);
        }
        x.insert(2000, 1000);
        x.step();
        x.dispense(20);
        x.addSample(1500, 1000, 2);
        x.calibrate(2, 1500, 1000);
        x.setMargin(1);
        x.insert(1, 1);
        x.insert(4000, 1);
    }

    private static void butTheConfiguration() {
        CoinSorter x = Machines.busy();
        x.saveSnapshot(0);
        x.parse(40);
        Check.due("the slot went with the old configuration", x.restoreSnapshot(0), false);
        Check.due("typeCount", x.typeCount(), 1);
        CoinSorter y = new CoinSorter();
        y.saveSnapshot(0);
        Check.load(y, "type 1 1500 50 1000 100;!");
        y.restoreSnapshot(0);
        Check.due("typeCount", y.typeCount(), 0);
    }

    private static void butTheBuffer() {
        CoinSorter x = Machines.busy();
        x.saveSnapshot(0);
        Check.due("append", x.append(0, 0, 0, 0, 0), 60);
        x.restoreSnapshot(0);
        Check.due("append after restoring", x.append(0, 0, 0, 0, 0), 80);
        Check.due("the bytes stay", x.parse(40), 1);
        Check.due("margin", x.margin(), 55);
        CoinSorter y = margins(1);
        y.append(0, 0, 0, 0, 0);
        y.undo();
        Check.due("undo leaves the buffer, too", y.append(0, 0, 0, 0, 0), 40);
    }

    private static void butTheHistory() {
        CoinSorter x = margins(5);
        x.saveSnapshot(0);
        x.undo();
        x.undo();
        x.restoreSnapshot(0);
        Check.due("margin", x.margin(), 5);
        Check.due("no change comes back", x.undo(), ABSENT);
        Check.due("saving leaves the history", savedMargins(5).undo(), 4);
    }

    private static CoinSorter savedMargins(int changes) {
        CoinSorter x = margins(changes);
        x.saveSnapshot(0);
        x.saveSnapshot(1);
        return x;
    }

    private static void butTheSlots() {
        CoinSorter x = margins(1);
        x.saveSnapshot(0);
        x.setMargin(2);
        x.saveSnapshot(1);
        x.restoreSnapshot(0);
        Check.due("slot 1 is still there", x.restoreSnapshot(1), true);
        Check.due("margin", x.margin(), 2);
        CoinSorter y = margins(1);
        y.saveSnapshot(0);
        y.undo();
        Check.due("undo leaves the slots, too", y.restoreSnapshot(0), true);
        Check.due("margin", y.margin(), 1);
    }

    // ---- parse

    private static final String OTHER = "type 3 1500 50 1000 100;type 4 1600 50 1000 100;bin 1 4;bin 0 3;";

    private static void parseEmpties() {
        for (String text : new String[] {OTHER, ""}) {
            Supplier<CoinSorter> fresh = () -> Check.machine(text);
            Twins.same("parse on a busy machine", fresh, () -> loaded(Machines.busyWithoutText(), text));
            Twins.same("parse on a jammed machine", fresh, () -> loaded(Machines.jammedWithoutText(), text));
        }
        Twins.same("parse(0) on 30 bags", CoinSorter::new, () -> parsedNothing(Machines.fullBags()));
        Twins.same("parse(0) on 40 samples", CoinSorter::new, () -> parsedNothing(Machines.fullSamples()));
        Twins.same("parse(0) on a full hopper", CoinSorter::new, () -> parsedNothing(Machines.fullHopper()));
        Twins.same("parse(0) on a stopped machine", CoinSorter::new, () -> parsedNothing(Machines.stopped()));
        Twins.same("work after parse", () -> worked(Check.machine(OTHER)), () -> worked(loaded(Machines.busyWithoutText(), OTHER)));
        Twins.same("work after parse", () -> worked(Check.machine(OTHER)), () -> worked(loaded(Machines.jammedWithoutText(), OTHER)));
    }

    private static CoinSorter loaded(CoinSorter x, String text) {
        Check.load(x, text);
        return x;
    }

    /** Some of everything, on a machine with the other configuration. */
    private static CoinSorter worked(CoinSorter x) {
        Check.insert(x, 6, 1500, 1000);
        x.run(100);
        x.changeBag(1);
        x.run(100);
        x.changeBag(1);
        Check.due("the first audit", x.audit(1, 9), 6);
        x.addSample(1500, 1000, -1);
        x.addSample(1600, 1000, 0);
        x.insert(1600, 1000);
        return x;
    }

    private static CoinSorter parsedNothing(CoinSorter x) {
        x.parse(0);
        return x;
    }

    private static void parseSetsTheMargin() {
        Check.due("the least", loaded(margins(3), "margin 0;").margin(), 0);
        Check.due("the greatest", loaded(margins(3), "margin 2000;").margin(), 2000);
        Check.due("without the statement", loaded(margins(3), OTHER).margin(), 100);
        Check.due("without any", loaded(margins(3), "").margin(), 100);
        Check.due("an error does not", loaded(margins(3), "margin 9;!").margin(), 3);
    }

    private static void parseClearsTheHistory() {
        Check.due("undo", loaded(margins(20), OTHER).undo(), ABSENT);
        Check.due("undo after parse(0)", parsedNothing(margins(20)).undo(), ABSENT);
        Check.due("undo after an error", loaded(margins(20), "!").undo(), 11);
        CoinSorter x = loaded(margins(20), OTHER);
        x.setMargin(1);
        x.setMargin(2);
        Check.due("changes count anew", x.undo(), 1);
        Check.due("margin", x.margin(), 1);
    }

    private static void parseEmptiesTheSlots() {
        for (int slot = 0; slot < 2; slot++) {
            CoinSorter x = loaded(savedMargins(3), OTHER);
            Check.due("slot " + slot, x.restoreSnapshot(slot), false);
            Check.due("margin", x.margin(), 100);
            Check.due("after parse(0)", parsedNothing(savedMargins(3)).restoreSnapshot(slot), false);
            Check.due("after an error", loaded(savedMargins(3), "!").restoreSnapshot(slot), true);
        }
    }

    // ---- promise 46

    private static void latestNotUndone() {
        CoinSorter x = margins(3);
        x.undo();
        Check.due("the latest", x.margin(), 2);
        x.undo();
        Check.due("the one before", x.margin(), 1);
        x.setMargin(7);
        x.undo();
        Check.due("the new one", x.margin(), 1);
        x.undo();
        Check.due("the first", x.margin(), 100);
        CoinSorter y = margins(30);
        for (int i = 0; i < 5; i++) {
            y.undo();
        }
        Check.due("five of thirty", y.margin(), 25);
        for (int i = 1; i <= 8; i++) {
            y.setMargin(1000 + i);
        }
        for (int i = 7; i >= 0; i--) {
            y.undo();
            Check.due("back to the fifth", y.margin(), i == 0 ? 25 : 1000 + i);
        }
        y.undo();
        Check.due("and on", y.margin(), 24);
    }

    private static void stillUndone() {
        Check.due("after one change", margins(1).undo(), 0);
        Check.due("after two", margins(2).undo(), 1);
        Check.due("after twelve", margins(12).undo(), 11);
        Check.due("after thirteen", margins(13).undo(), 11);
        Check.due("after 25", margins(25).undo(), 11);
        CoinSorter x = margins(12);
        x.undo();
        x.setMargin(50);
        Check.due("one undone, one done", x.undo(), 11);
        x.setMargin(51);
        x.setMargin(52);
        Check.due("one too many", x.undo(), 11);
    }

    private static void noneToUndo() {
        Check.due("a new object", new CoinSorter().undo(), ABSENT);
        CoinSorter x = margins(13);
        for (int i = 0; i < 12; i++) {
            x.undo();
        }
        Check.due("the thirteenth", x.undo(), ABSENT);
        Check.due("again", x.undo(), ABSENT);
        Check.due("it stays", x.margin(), 1);
        x.setMargin(9);
        Check.due("a change after it", x.undo(), 0);
        Twins.same("undo of nothing", () -> savedAndRestored(Machines.busy(), y -> { }), y -> Check.due("undo", y.undo(), ABSENT));
    }

    // ---- promises 47 and 48

    private static void inPlace() {
        for (int slot = 0; slot < 2; slot++) {
            CoinSorter x = savedMargins(3);
            x.setMargin(8);
            x.saveSnapshot(slot);
            x.setMargin(9);
            x.restoreSnapshot(slot);
            Check.due("the later one", x.margin(), 8);
            x.restoreSnapshot(1 - slot);
            Check.due("the other slot", x.margin(), 3);
        }
    }

    private static void saveInSlots() {
        for (int slot = 0; slot < 2; slot++) {
            CoinSorter x = margins(1);
            Check.due("saveSnapshot", x.saveSnapshot(slot), true);
            Check.due("the other stays empty", x.restoreSnapshot(1 - slot), false);
            Check.due("saving is no change", x.undo(), 0);
            Check.due("restoreSnapshot", x.restoreSnapshot(slot), true);
        }
    }

    private static void saveRefuses() {
        for (int slot : NO_SLOT) {
            Check.due("saveSnapshot " + slot, new CoinSorter().saveSnapshot(slot), false);
            Twins.same("saveSnapshot " + slot, Machines::busy, x -> Check.due("saveSnapshot", x.saveSnapshot(slot), false));
        }
    }

    private static void restoreClears() {
        CoinSorter x = savedMargins(3);
        x.setMargin(8);
        Check.due("restoreSnapshot", x.restoreSnapshot(0), true);
        Check.due("margin", x.margin(), 3);
        Check.due("undo", x.undo(), ABSENT);
        Check.due("margin", x.margin(), 3);
        x.setMargin(9);
        Check.due("one change since", x.undo(), 0);
        Check.due("restoring what is there clears it, too", restoredAtOnce().undo(), ABSENT);
    }

    private static CoinSorter restoredAtOnce() {
        CoinSorter x = savedMargins(20);
        x.restoreSnapshot(1);
        return x;
    }

    private static void staysInItsSlot() {
        for (int slot = 0; slot < 2; slot++) {
            CoinSorter x = savedMargins(3);
            for (int round = 0; round < 4; round++) {
                x.setMargin(100 + round);
                x.insert(1, 0);
                Check.due("restoreSnapshot", x.restoreSnapshot(slot), true);
                Check.due("margin", x.margin(), 3);
                Check.due("hopperSize", x.hopperSize(), 0);
            }
        }
    }

    private static void restoreFromSlots() {
        CoinSorter x = savedMargins(3);
        Check.due("slot 0", x.restoreSnapshot(0), true);
        Check.due("slot 1", x.restoreSnapshot(1), true);
        Check.due("below", x.restoreSnapshot(-1), false);
        Check.due("above", x.restoreSnapshot(2), false);
    }

    private static void restoreNoSlot() {
        for (int slot : NO_SLOT) {
            Check.due("restoreSnapshot " + slot, new CoinSorter().restoreSnapshot(slot), false);
            Twins.same("restoreSnapshot " + slot, Machines::busy, x -> Check.due("restoreSnapshot", x.restoreSnapshot(slot), false));
        }
    }

    private static void restoreEmptySlot() {
        for (int slot = 0; slot < 2; slot++) {
            int empty = slot;
            Check.due("a new object", new CoinSorter().restoreSnapshot(slot), false);
            Twins.same("restoring from an empty slot", () -> onlyIn(1 - empty),
                x -> Check.due("restoreSnapshot", x.restoreSnapshot(empty), false));
        }
    }

    /** A machine with five changes in its history, one of its slots filled. */
    private static CoinSorter onlyIn(int slot) {
        CoinSorter x = Check.machine(OTHER);
        x.insert(1500, 1000);
        x.step();
        x.saveSnapshot(slot);
        x.setMargin(5);
        x.insert(1600, 1000);
        x.calibrate(0, 1501, 1001);
        return x;
    }
}
