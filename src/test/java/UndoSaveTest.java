/** Promises 22 to 24: undo, and saved states. */
final class UndoSaveTest {
    public static void main(String[] args) {
        undoOfEachChange();
        undoWithFourKeepers();
        undoBackwards();
        undoDropsTheOldest();
        undoAndThenChange();
        undoLeavesPadAndSlots();
        save();
        restore();
        restoreBringsAllBack();
        Due.finish("UndoSaveTest");
    }

    private static PianoCovers busy() {
        PianoCovers x = new PianoCovers();
        Help.write(x, "p1c;p4;p6c;p11c;k2;k11;r9,22;t47");
        x.carryOut();
        x.set(PianoCovers.PLAY, 33);
        return x;
    }

    private static void undoOfEachChange() {
        for (int change = 0; change < 10; change++) {
            PianoCovers x = busy();
            x.save(1);
            x.rain(Help.hour(5));
            Due.due("a piano is damp", x.of(4, 1), 20);
            String seen = Help.street(x);
            int before = x.count(18);
            int answer = change(x, change);
            Due.due("change " + change + " is no error", answer >= 0 ? 1 : 0, 1);
            Due.due("change " + change + " is recorded", x.count(18), before + 1);
            Due.due("change " + change + " is undone", x.undo(), before);
            Due.same("change " + change + ", as before", Help.street(x), seen);
        }
    }

    private static int change(PianoCovers x, int which) {
        switch (which) {
            case 0: return x.set(PianoCovers.THIEF, 3);
            case 1: return x.set(PianoCovers.PLAY, 33);
            case 2: return x.rain(77);
            case 3: return x.piano(0, 1);
            case 4: return x.take(11);
            case 5: return x.keeper(5);
            case 6: return x.cover(4);
            case 7: return x.pass(99);
            case 8: return x.restore(1);
            default:
                Help.write(x, "p0c;t50;k7;r3");
                return x.carryOut();
        }
    }

    /** Each keeper has a piano of its own to cover, open and tune, and a way to go. */
    private static PianoCovers withBusyKeepers() {
        PianoCovers x = new PianoCovers();
        x.set(PianoCovers.FALL, 20);
        x.set(PianoCovers.TUNE, 100);
        x.rain(Help.hour(0, 1, 2));
        for (int keeper = 0; keeper < 4; keeper++) {
            x.piano(3 * keeper + 1, 1);
            x.keeper(3 * keeper);
        }
        x.pass(12);
        return x;
    }

    private static void undoWithFourKeepers() {
        for (int keeper = 0; keeper < 4; keeper++) {
            PianoCovers x = withBusyKeepers();
            for (int what = 1; what <= 4; what++) {
                Due.due("keeper " + keeper + " did " + what, x.ofKeeper(keeper, what) > 0 ? 1 : 0, 1);
            }
            String seen = Help.street(x);
            x.save(0);
            x.take(1 + 3 * keeper);
            x.piano(2 + 3 * keeper, 1);
            x.pass(50);
            Due.due("keeper " + keeper + " went on", x.ofKeeper(keeper, 4) > 1 ? 1 : 0, 1);
            String later = Help.street(x);
            x.restore(0);
            Due.same("restored " + keeper, Help.street(x), seen);
            x.undo();
            Due.same("undone " + keeper, Help.street(x), later);
            x.undo();
            x.undo();
            x.undo();
            Due.same("all undone " + keeper, Help.street(x), seen);
        }
    }

    private static void undoBackwards() {
        PianoCovers x = new PianoCovers();
        Due.due("nothing to undo", x.undo(), -5);
        String[] seen = new String[6];
        for (int i = 0; i < 6; i++) {
            seen[i] = Help.street(x);
            x.piano(i, i % 2);
        }
        for (int i = 5; i >= 0; i--) {
            Due.due("undo() to " + i, x.undo(), i);
            Due.same("state " + i, Help.street(x), seen[i]);
        }
        Due.due("nothing more", x.undo(), -5);
        Due.due("still nothing more", x.undo(), -5);
    }

    private static void undoDropsTheOldest() {
        PianoCovers x = new PianoCovers();
        for (int i = 0; i < 12; i++) {
            x.piano(i, 0);
            Due.due("history after " + i, x.count(18), Math.min(6, i + 1));
        }
        for (int i = 5; i >= 0; i--) {
            Due.due("undo()", x.undo(), i);
            Due.due("pianos", x.count(1), (1 << 6 + i) - 1);
        }
        Due.due("the older ones are gone", x.undo(), -5);
        Due.due("six pianos stay", x.count(1), 63);
    }

    private static void undoAndThenChange() {
        PianoCovers x = new PianoCovers();
        x.piano(0, 0);
        x.piano(1, 0);
        x.piano(2, 0);
        x.undo();
        x.piano(5, 0);
        Due.due("three again", x.count(18), 3);
        Due.due("pianos", x.count(1), 1 << 5 | 3);
        Due.due("undo()", x.undo(), 2);
        Due.due("pianos then", x.count(1), 3);
        Due.due("an error records nothing", x.piano(0, 0), -5);
        Due.due("two", x.count(18), 2);
        Due.due("a set to the same records", x.set(0, 2), 2);
        Due.due("three", x.count(18), 3);
    }

    private static void undoLeavesPadAndSlots() {
        PianoCovers x = new PianoCovers();
        x.piano(3, 0);
        Help.write(x, "k1");
        x.piano(4, 0);
        x.save(0);
        Help.write(x, ";k2");
        x.undo();
        Due.due("the pad stays", x.count(17), 5);
        Due.due("the slot stays", x.restore(0), 2);
        Due.due("restoring is a change", x.count(18), 2);
        x.undo();
        Due.due("undone", x.count(1), 8);
        Due.due("the pad is carried out", x.carryOut(), 2);
        x.undo();
        Due.due("and does not come back", x.count(17), 0);
    }

    private static void save() {
        PianoCovers x = new PianoCovers();
        Due.due("save(0) of nothing", x.save(0), 0);
        x.piano(1, 0);
        x.piano(2, 0);
        Due.due("save(1)", x.save(1), 2);
        Due.due("saving is no change", x.count(18), 2);
        Due.due("restore(0)", x.restore(0), 0);
        Due.due("restore(1)", x.restore(1), 2);
        x.piano(3, 0);
        Due.due("save(1) over it", x.save(1), 3);
        x.take(1);
        Due.due("restore(1) then", x.restore(1), 3);
        String seen = Help.all(x);
        Due.due("save(2)", x.save(2), -2);
        for (int odd : Help.ODD) {
            Due.due("save(" + odd + ")", x.save(odd), -2);
        }
        Due.same("save, errors change nothing", Help.all(x), seen);
    }

    private static void restore() {
        PianoCovers x = new PianoCovers();
        x.piano(1, 0);
        String seen = Help.all(x);
        Due.due("nothing was saved in 0", x.restore(0), -5);
        Due.due("nothing was saved in 1", x.restore(1), -5);
        Due.due("restore(2)", x.restore(2), -2);
        for (int odd : Help.ODD) {
            Due.due("restore(" + odd + ")", x.restore(odd), -2);
        }
        Due.same("restore, errors change nothing", Help.all(x), seen);
        x.save(1);
        Due.due("still nothing in 0", x.restore(0), -5);
        x.take(1);
        Due.due("restore(1)", x.restore(1), 1);
        x.take(1);
        x.pass(20);
        Due.due("restore(1) again: the slot keeps it", x.restore(1), 1);
        Due.due("hours", x.count(0), 0);
    }

    private static void restoreBringsAllBack() {
        PianoCovers x = busy();
        for (int setting = 0; setting < 7; setting++) {
            x.set(setting, 7);
        }
        String seen = Help.street(x);
        x.save(0);
        Help.write(x, "r-;k3;t44;p0c");
        Due.due("four orders", x.carryOut(), 4);
        for (int setting = 0; setting < 7; setting++) {
            x.set(setting, 11);
        }
        x.take(6);
        x.save(1);
        String later = Help.street(x);
        Help.write(x, "r");
        Due.due("pianos of the slot", x.restore(0), 4);
        Due.same("all is back", Help.street(x), seen);
        Due.due("the pad is not", x.count(17), 1);
        Due.due("the history is not", x.count(18), 6);
        x.pass(30);
        x.restore(1);
        Due.same("and slot 1", Help.street(x), later);
        x.undo();
        x.undo();
        Due.same("as slot 0 brought it", Help.street(x), seen);
    }
}
