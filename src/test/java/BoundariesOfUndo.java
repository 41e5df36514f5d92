/** The sentences of promises 22 to 24 that name a boundary. */
final class BoundariesOfUndo {
    private BoundariesOfUndo() { }

    static void run() {
        undo();
        save();
        restore();
    }

    private static void undo() {
        Sentence.holds("Promise 22", "everything except the pad, the slots and the history is as it was before it",
            BoundariesOfUndo::everythingIsAsBefore);
        Sentence.holds("Promise 22", "except the pad, the slots and the history", BoundariesOfUndo::padAndSlotsAreNot);
        Sentence.holds("Promise 22", "A history of at most 6 states is kept", BoundariesOfUndo::atMostSixStates);
        Sentence.holds("Promise 22", "each method that is a change, and returns no error, records the state before it",
            BoundariesOfUndo::eachChangeRecords);
        Sentence.holds("Promise 22", "and returns no error", BoundariesOfUndo::anErrorRecordsNothing);
        Sentence.holds("Promise 22", "each method that is a change", BoundariesOfUndo::otherMethodsRecordNothing);
        Sentence.holds("Promise 22", "(also if nothing is different then)",
            BoundariesOfUndo::recordsIfNothingIsDifferent);
        Sentence.holds("Promise 22", "when one more is recorded, the oldest one is dropped",
            BoundariesOfUndo::theOldestIsDropped);
        Sentence.holds("Promise 22", "An order of a text records nothing by itself",
            BoundariesOfUndo::anOrderRecordsNothing);
        Sentence.holds("Promise 22", "Returns how many changes can be undone then",
            BoundariesOfUndo::howManyCanBeUndone);
        Sentence.holds("Promise 22", "NOT_POSSIBLE if there is none", BoundariesOfUndo::nothingToUndo);
    }

    private static void everythingIsAsBefore() {
        PianoCovers x = Made.busy();
        for (int keeper = 0; keeper < 4; keeper++) {
            for (int what = 1; what <= 4; what++) {
                Due.due("keeper " + keeper + " did " + what, x.ofKeeper(keeper, what) > 0 ? 1 : 0, 1);
            }
        }
        Due.due("11 is damp", x.of(11, 1), 20);
        Due.due("it brought coins", x.of(11, 3), 10);
        Due.due("it was rained on", x.of(11, 4), 1);
        Due.due("a cover was stolen", x.count(6), 1);
        x.save(0);
        String seen = Help.street(x);
        x.cover(11);
        x.pass(40);
        Due.due("keeper 3 covered more", x.ofKeeper(3, 1) > 2 ? 1 : 0, 1);
        Due.due("and opened more", x.ofKeeper(3, 2) > 1 ? 1 : 0, 1);
        x.undo();
        x.undo();
        Due.same("behind a cover and hours", Help.street(x), seen);
        Help.write(x, "t9;r5;p1c;t3;c9");
        x.carryOut();
        x.undo();
        Due.same("behind carryOut()", Help.street(x), seen);
        x.pass(90);
        x.restore(0);
        Due.same("restored", Help.street(x), seen);
        x.undo();
        x.undo();
        Due.same("behind restore()", Help.street(x), seen);
    }

    private static void padAndSlotsAreNot() {
        PianoCovers x = new PianoCovers();
        x.piano(1, 0);
        x.save(0);
        x.piano(2, 0);
        Help.write(x, "k3");
        x.save(1);
        x.undo();
        Due.due("the pad stays", x.count(17), 2);
        Due.due("one piano", x.count(1), 2);
        Due.due("slot 1 stays", x.restore(1), 2);
        x.undo();
        x.undo();
        Due.due("no piano", x.count(1), 0);
        Due.due("slot 0 stays", x.restore(0), 1);
    }

    private static void atMostSixStates() {
        for (int changes = 5; changes <= 7; changes++) {
            PianoCovers x = new PianoCovers();
            for (int i = 0; i < changes; i++) {
                x.piano(i, 0);
            }
            int undone = 0;
            for (int left = x.undo(); left >= 0; left = x.undo()) {
                undone++;
            }
            Due.due("of " + changes + " changes", undone, Math.min(6, changes));
            Due.due("pianos of those that were not undone", x.count(1), changes == 7 ? 1 : 0);
        }
    }

    private static void eachChangeRecords() {
        for (int which = 0; which < 9; which++) {
            PianoCovers x = Made.rich();
            x.undo();
            x.undo();
            x.set(PianoCovers.PLAY, 21);
            String seen = Help.street(x);
            Due.due("change " + which, change(x, which) >= 0 ? 1 : 0, 1);
            Due.due("change " + which + " is recorded", x.count(18), 6);
            x.undo();
            Due.same("change " + which + " is undone", Help.street(x), seen);
        }
    }

    private static int change(PianoCovers x, int which) {
        switch (which) {
            case 0: return x.set(PianoCovers.WARN, 0);
            case 1: return x.rain(0);
            case 2: return x.piano(0, 1);
            case 3: return x.take(9);
            case 4: return x.keeper(6);
            case 5: return x.cover(9);
            case 6: return x.pass(1);
            case 7: return x.carryOut();
            default: return x.restore(0);
        }
    }

    private static void anErrorRecordsNothing() {
        PianoCovers x = Made.rich();
        x.undo();
        x.set(7, 0);
        x.set(0, 13);
        x.rain(-1);
        x.piano(2, 0);
        x.piano(12, 0);
        x.take(0);
        x.keeper(12);
        x.cover(0);
        x.cover(2);
        x.pass(0);
        x.restore(2);
        x.put('!');
        x.carryOut();
        Due.due("five still", x.count(18), 5);
        PianoCovers full = new PianoCovers();
        for (int i = 0; i < 6; i++) {
            full.piano(i, 0);
        }
        Due.due("an error", full.piano(0, 0), PianoCovers.NOT_POSSIBLE);
        for (int i = 5; i >= 0; i--) {
            Due.due("none of six is dropped by it", full.undo(), i);
        }
        Due.due("back at the beginning", full.count(1), 0);
    }

    private static void otherMethodsRecordNothing() {
        PianoCovers x = Made.rich();
        x.undo();
        x.of(2, 0);
        x.ofKeeper(0, 0);
        x.count(0);
        x.worst();
        x.why(2);
        x.rainIn();
        x.coveredIn(2);
        x.willBeWet(9);
        x.bestPlace(9, 0);
        x.put('!');
        x.fault();
        x.wipe();
        x.save(0);
        Due.due("five still", x.count(18), 5);
        Due.due("undo() takes one away", x.undo(), 4);
    }

    private static void recordsIfNothingIsDifferent() {
        PianoCovers x = new PianoCovers();
        x.set(PianoCovers.WARN, 2);
        Due.due("the same value", x.count(18), 1);
        x.rain(0);
        Due.due("the same rain", x.count(18), 2);
        x.save(0);
        x.restore(0);
        Due.due("the same state", x.count(18), 3);
        Help.write(x, "r-");
        x.carryOut();
        Due.due("an order without a difference", x.count(18), 4);
        Due.due("undone", x.undo(), 3);
    }

    private static void theOldestIsDropped() {
        PianoCovers x = new PianoCovers();
        for (int i = 0; i < 12; i++) {
            x.piano(i, 0);
        }
        for (int i = 5; i >= 0; i--) {
            Due.due("undo()", x.undo(), i);
            Due.due("pianos", x.count(1), (1 << 6 + i) - 1);
        }
        Due.due("the older ones are gone", x.undo(), PianoCovers.NOT_POSSIBLE);
        for (int i = 0; i < 6; i++) {
            x.rain(1 << i);
        }
        x.rain(77);
        for (int i = 5; i >= 0; i--) {
            x.undo();
            Due.due("rain, filled once more", x.count(7), 1 << i);
        }
        Due.due("and none", x.undo(), PianoCovers.NOT_POSSIBLE);
    }

    private static void anOrderRecordsNothing() {
        PianoCovers x = Made.withPad("p0;p1;p2;p3;p4;p5;p6;p7;p8");
        x.rain(5);
        x.carryOut();
        Due.due("rain and carryOut", x.count(18), 2);
        Due.due("undo() of nine orders", x.undo(), 1);
        Due.due("no piano", x.count(1), 0);
        Due.due("the change before is kept", x.undo(), 0);
        Due.due("no rain", x.count(7), 0);
    }

    private static void howManyCanBeUndone() {
        PianoCovers x = new PianoCovers();
        x.piano(0, 0);
        x.piano(1, 0);
        Due.due("one more", x.undo(), 1);
        x.piano(2, 0);
        Due.due("two again", x.count(18), 2);
        Due.due("one more then", x.undo(), 1);
        Due.due("none more: 0 is no error", x.undo(), 0);
    }

    private static void nothingToUndo() {
        Made.refused("undo() of a new one", PianoCovers::new, PianoCovers::undo, PianoCovers.NOT_POSSIBLE);
        Made.refused("undo() of one undone", BoundariesOfUndo::allUndone, PianoCovers::undo, PianoCovers.NOT_POSSIBLE);
    }

    private static PianoCovers allUndone() {
        PianoCovers x = Made.rich();
        for (int i = 0; i < 6; i++) {
            x.undo();
        }
        return x;
    }

    private static void save() {
        Sentence.holds("Promise 23", "Saves everything except the pad, the history and the slots in a slot",
            BoundariesOfUndo::savesEverything);
        Sentence.holds("Promise 23", "and overwrites what was saved there", BoundariesOfUndo::overwrites);
        Sentence.holds("Promise 23", "slot: 0 or 1", BoundariesOfUndo::slotsToSave);
        Sentence.holds("Promise 23", "Returns how many pianos there are", BoundariesOfUndo::pianosSaved);
        Sentence.holds("Promise 23", "BAD_VALUE if there is no such slot", BoundariesOfUndo::noSlotToSave);
    }

    private static void savesEverything() {
        PianoCovers x = Made.busy();
        Help.write(x, "k1;k2");
        String seen = Help.street(x);
        x.save(1);
        for (int setting = 0; setting < 7; setting++) {
            x.set(setting, 8);
        }
        x.pass(40);
        x.rain(9);
        x.take(2);
        x.restore(1);
        Due.same("everything", Help.street(x), seen);
        Due.due("not the pad", x.count(17), 5);
        x.wipe();
        x.restore(1);
        Due.due("which does not come back", x.count(17), 0);
        Due.due("not the history", x.count(18), 6);
        x.undo();
        x.undo();
        Due.due("which goes on: 2 was taken", x.of(2, 0), PianoCovers.NO_SUCH);
    }

    private static void overwrites() {
        PianoCovers x = new PianoCovers();
        x.piano(1, 0);
        x.save(0);
        x.piano(2, 0);
        x.save(0);
        x.take(1);
        x.take(2);
        Due.due("what was saved last", x.restore(0), 2);
        PianoCovers y = Made.rich();
        y.take(2);
        y.take(5);
        y.take(9);
        y.save(0);
        Due.due("also by less: no piano", y.restore(0), 0);
    }

    private static void slotsToSave() {
        PianoCovers x = new PianoCovers();
        Due.due("slot 0", x.save(0), 0);
        x.piano(1, 0);
        Due.due("slot 1", x.save(1), 1);
        x.piano(2, 0);
        Due.due("each keeps its own: 0", x.restore(0), 0);
        Due.due("each keeps its own: 1", x.restore(1), 1);
    }

    private static void pianosSaved() {
        Due.due("none: 0 is no error", new PianoCovers().save(1), 0);
        Due.due("three", Made.rich().save(1), 3);
        Due.due("twelve", Made.withTwelvePianos().save(1), 12);
    }

    private static void noSlotToSave() {
        Made.refused("save(-1)", x -> x.save(-1), PianoCovers.BAD_VALUE);
        Made.refused("save(2)", x -> x.save(2), PianoCovers.BAD_VALUE);
        Made.refused("save(MIN)", x -> x.save(Integer.MIN_VALUE), PianoCovers.BAD_VALUE);
        Made.refused("save(MAX)", x -> x.save(Integer.MAX_VALUE), PianoCovers.BAD_VALUE);
    }

    private static void restore() {
        Sentence.holds("Promise 24", "Restores what was saved last in a slot", BoundariesOfUndo::whatWasSavedLast);
        Sentence.holds("Promise 24", "which keeps it", BoundariesOfUndo::theSlotKeepsIt);
        Sentence.holds("Promise 24", "This is a change", BoundariesOfUndo::restoreIsAChange);
        Sentence.holds("Promise 24", "slot: 0 or 1", BoundariesOfUndo::slotsToRestore);
        Sentence.holds("Promise 24", "Returns how many pianos there are then", BoundariesOfUndo::pianosRestored);
        Sentence.holds("Promise 24", "BAD_VALUE if there is no such slot", BoundariesOfUndo::noSlotToRestore);
        Sentence.holds("Promise 24", "NOT_POSSIBLE if nothing was saved in it", BoundariesOfUndo::nothingWasSaved);
    }

    private static void whatWasSavedLast() {
        PianoCovers x = new PianoCovers();
        for (int pianos = 1; pianos <= 3; pianos++) {
            x.piano(pianos, 0);
            x.save(0);
        }
        x.take(3);
        Due.due("three", x.restore(0), 3);
    }

    private static void theSlotKeepsIt() {
        PianoCovers x = Made.rich();
        x.restore(1);
        String seen = Help.street(x);
        x.pass(30);
        x.take(9);
        x.restore(1);
        Due.same("a second time", Help.street(x), seen);
        x.undo();
        x.undo();
        x.restore(1);
        Due.same("a third time, behind undo()", Help.street(x), seen);
    }

    private static void restoreIsAChange() {
        PianoCovers x = Made.rich();
        String seen = Help.street(x);
        x.undo();
        x.pass(9);
        Due.same("as before", Help.street(x), seen);
        x.undo();
        Due.due("five", x.count(18), 5);
        x.restore(0);
        Due.due("six", x.count(18), 6);
        x.undo();
        x.pass(9);
        Due.same("undone", Help.street(x), seen);
    }

    private static void slotsToRestore() {
        PianoCovers x = Made.rich();
        Due.due("slot 0", x.restore(0), 2);
        Due.due("slot 1", x.restore(1), 3);
        Due.due("hours of slot 1", x.count(0), 1);
        x.restore(0);
        Due.due("hours of slot 0", x.count(0), 0);
    }

    private static void pianosRestored() {
        PianoCovers x = Made.withTwelvePianos();
        x.save(1);
        x.take(4);
        Due.due("twelve", x.restore(1), 12);
        PianoCovers y = new PianoCovers();
        y.save(0);
        y.piano(1, 0);
        Due.due("none: 0 is no error", y.restore(0), 0);
        Due.due("a change", y.count(18), 2);
    }

    private static void noSlotToRestore() {
        Made.refused("restore(-1)", x -> x.restore(-1), PianoCovers.BAD_VALUE);
        Made.refused("restore(2)", x -> x.restore(2), PianoCovers.BAD_VALUE);
        Made.refused("restore(MIN)", x -> x.restore(Integer.MIN_VALUE), PianoCovers.BAD_VALUE);
        Made.refused("restore(MAX)", x -> x.restore(Integer.MAX_VALUE), PianoCovers.BAD_VALUE);
    }

    private static void nothingWasSaved() {
        Made.refused("restore(0)", Made::withTwelvePianos, x -> x.restore(0), PianoCovers.NOT_POSSIBLE);
        Made.refused("restore(1)", Made::withTwelvePianos, x -> x.restore(1), PianoCovers.NOT_POSSIBLE);
        Made.refused("restore(0) where 1 was saved", () -> savedIn(1), x -> x.restore(0), PianoCovers.NOT_POSSIBLE);
        Made.refused("restore(1) where 0 was saved", () -> savedIn(0), x -> x.restore(1), PianoCovers.NOT_POSSIBLE);
        Made.refused("restore(1) where save(2) was refused", BoundariesOfUndo::refusedSave, x -> x.restore(1),
            PianoCovers.NOT_POSSIBLE);
    }

    private static PianoCovers savedIn(int slot) {
        PianoCovers x = new PianoCovers();
        x.piano(4, 1);
        x.save(slot);
        x.piano(5, 1);
        return x;
    }

    private static PianoCovers refusedSave() {
        PianoCovers x = new PianoCovers();
        x.piano(4, 1);
        x.save(2);
        x.save(-1);
        return x;
    }
}
