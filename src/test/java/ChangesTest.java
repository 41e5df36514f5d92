/** Promises 1 to 8: a new object, and the calls that change it. */
final class ChangesTest {
    private static final int[] LEAST = {0, 1, 1, 0, 0, 0, 1};
    private static final int[] MOST = {12, 50, 20, 20, 50, 100, 20};
    private static final int[] FIRST = {2, 20, 4, 3, 10, 60, 7};

    public static void main(String[] args) {
        newObject();
        set();
        rain();
        piano();
        pianoStartsAnew();
        take();
        keeper();
        cover();
        pass();
        passUpToTheBound();
        Due.finish("ChangesTest");
    }

    private static void newObject() {
        PianoCovers x = new PianoCovers();
        for (int what = 0; what <= 9; what++) {
            Due.due("new: count(" + what + ")", x.count(what), 0);
        }
        for (int setting = 0; setting < 7; setting++) {
            Due.due("new: setting " + setting, x.count(10 + setting), FIRST[setting]);
        }
        Due.due("new: count(17)", x.count(17), 0);
        Due.due("new: count(18)", x.count(18), 0);
        for (int place = 0; place < 12; place++) {
            Due.due("new: of(" + place + ", 0)", x.of(place, 0), -1);
        }
        Due.due("new: ofKeeper(0, 0)", x.ofKeeper(0, 0), -1);
        Due.due("new: undo()", x.undo(), -5);
        Due.due("new: restore(0)", x.restore(0), -5);
        Due.due("new: restore(1)", x.restore(1), -5);
        PianoCovers other = new PianoCovers();
        x.piano(0, 1);
        x.set(0, 5);
        Due.due("another object: count(1)", other.count(1), 0);
        Due.due("another object: count(10)", other.count(10), 2);
    }

    private static void set() {
        for (int setting = 0; setting < 7; setting++) {
            PianoCovers x = new PianoCovers();
            Due.due("set to most " + setting, x.set(setting, MOST[setting]), FIRST[setting]);
            Due.due("is most " + setting, x.count(10 + setting), MOST[setting]);
            Due.due("set to least " + setting, x.set(setting, LEAST[setting]), MOST[setting]);
            Due.due("set to least again " + setting, x.set(setting, LEAST[setting]), LEAST[setting]);
            Due.due("three changes", x.count(18), 3);
            String seen = Help.all(x);
            Due.due("set above " + setting, x.set(setting, MOST[setting] + 1), -2);
            Due.due("set below " + setting, x.set(setting, LEAST[setting] - 1), -2);
            Due.due("set to MAX " + setting, x.set(setting, Integer.MAX_VALUE), -2);
            Due.due("set to MIN " + setting, x.set(setting, Integer.MIN_VALUE), -2);
            Due.same("set, errors change nothing", Help.all(x), seen);
            for (int other = 0; other < 7; other++) {
                if (other != setting) {
                    Due.due("other setting " + other, x.count(10 + other), FIRST[other]);
                }
            }
        }
        PianoCovers x = new PianoCovers();
        Due.due("set(7, 1)", x.set(7, 1), -2);
        for (int odd : Help.ODD) {
            Due.due("set(" + odd + ", 1)", x.set(odd, 1), -2);
        }
        Due.due("set, errors are no changes", x.count(18), 0);
    }

    private static void rain() {
        PianoCovers x = new PianoCovers();
        Due.due("rain(all)", x.rain(16777215), 0);
        Due.due("rain(5)", x.rain(5), 16777215);
        Due.due("count(7)", x.count(7), 5);
        Due.due("rain(5) again", x.rain(5), 5);
        Due.due("three changes", x.count(18), 3);
        String seen = Help.all(x);
        Due.due("rain(16777216)", x.rain(16777216), -2);
        for (int odd : Help.ODD) {
            Due.due("rain(" + odd + ")", x.rain(odd), -2);
        }
        Due.same("rain, errors change nothing", Help.all(x), seen);
        Due.due("rain(0)", x.rain(0), 5);
        Due.due("count(7) then", x.count(7), 0);
    }

    private static void piano() {
        PianoCovers x = new PianoCovers();
        Due.due("piano(11, 1)", x.piano(11, 1), 1);
        Due.due("piano(0, 0)", x.piano(0, 0), 2);
        Due.due("pianos", x.count(1), 1 << 11 | 1);
        Due.due("open with a cover", x.count(3), 1 << 11);
        Due.due("covered", x.count(2), 0);
        Due.due("pitch at first", x.of(11, 0), 100);
        Due.due("damp at first", x.of(11, 1), 0);
        Due.due("cover lies there", x.of(11, 2), 1);
        Due.due("no cover", x.of(0, 2), 0);
        String seen = Help.all(x);
        Due.due("piano(12, 0)", x.piano(12, 0), -1);
        Due.due("piano(-1, 2): the place first", x.piano(-1, 2), -1);
        Due.due("piano(32, 0)", x.piano(32, 0), -1);
        Due.due("piano(3, 2)", x.piano(3, 2), -2);
        Due.due("piano(3, -1)", x.piano(3, -1), -2);
        Due.due("piano(0, 2): the cover ahead of the piano", x.piano(0, 2), -2);
        Due.due("piano(0, 1)", x.piano(0, 1), -5);
        Due.due("piano(11, 0)", x.piano(11, 0), -5);
        Due.same("piano, errors change nothing", Help.all(x), seen);
        for (int place = 1; place < 11; place++) {
            Due.due("piano(" + place + ", 1)", x.piano(place, 1), place + 2);
        }
        Due.due("all places", x.count(1), 4095);
    }

    private static void pianoStartsAnew() {
        PianoCovers x = new PianoCovers();
        x.piano(4, 1);
        x.pass(10);
        x.rain(Help.ALL_HOURS);
        x.pass(2);
        Due.due("it was rained on", x.of(4, 4), 2);
        Due.due("it brought coins", x.of(4, 3), 19);
        x.take(4);
        Due.due("one comes again", x.piano(4, 0), 1);
        Due.due("its pitch", x.of(4, 0), 100);
        Due.due("its damp", x.of(4, 1), 0);
        Due.due("its cover", x.of(4, 2), 0);
        Due.due("its coins", x.of(4, 3), 0);
        Due.due("its hours of rain", x.of(4, 4), 0);
        Due.due("the street's coins stay", x.count(5), 19);
    }

    private static void take() {
        PianoCovers x = new PianoCovers();
        x.piano(2, 1);
        x.piano(3, 1);
        x.keeper(3);
        x.rain(1);
        x.pass(1);
        Due.due("one is covered", x.count(2), 8);
        Due.due("one cover lies", x.count(3), 4);
        String seen = Help.all(x);
        Due.due("take(4)", x.take(4), -1);
        Due.due("take(12)", x.take(12), -1);
        Due.due("take(34)", x.take(34), -1);
        for (int odd : Help.ODD) {
            Due.due("take(" + odd + ")", x.take(odd), -1);
        }
        Due.same("take, errors change nothing", Help.all(x), seen);
        Due.due("take(3)", x.take(3), 1);
        Due.due("its cover goes with it", x.count(2), 0);
        Due.due("take(3) again", x.take(3), -1);
        Due.due("take(2)", x.take(2), 0);
        Due.due("its cover goes, too", x.count(3), 0);
        Due.due("no pianos", x.count(1), 0);
        Due.due("the keeper stays", x.count(4), 1);
    }

    private static void keeper() {
        PianoCovers x = new PianoCovers();
        Due.due("keeper(12)", x.keeper(12), -1);
        for (int odd : Help.ODD) {
            Due.due("keeper(" + odd + ")", x.keeper(odd), -1);
        }
        Due.due("keeper(0)", x.keeper(0), 0);
        Due.due("keeper(11)", x.keeper(11), 1);
        Due.due("keeper(11) again", x.keeper(11), 2);
        Due.due("keeper(5)", x.keeper(5), 3);
        Due.due("four", x.count(4), 4);
        String seen = Help.all(x);
        Due.due("a fifth", x.keeper(5), -4);
        Due.due("a fifth at no place: the place first", x.keeper(12), -1);
        Due.same("keeper, errors change nothing", Help.all(x), seen);
        Due.due("four changes", x.count(18), 4);
        int[] places = {0, 11, 11, 5};
        for (int keeper = 0; keeper < 4; keeper++) {
            Due.due("its place", x.ofKeeper(keeper, 0), places[keeper]);
            for (int what = 1; what <= 4; what++) {
                Due.due("it did nothing yet", x.ofKeeper(keeper, what), 0);
            }
        }
    }

    private static void cover() {
        PianoCovers x = new PianoCovers();
        x.piano(0, 0);
        x.piano(6, 1);
        x.piano(11, 0);
        x.keeper(6);
        x.rain(1);
        x.pass(1);
        Due.due("one is covered", x.count(2), 1 << 6);
        String seen = Help.all(x);
        Due.due("cover(1)", x.cover(1), -1);
        Due.due("cover(12)", x.cover(12), -1);
        Due.due("cover(32)", x.cover(32), -1);
        for (int odd : Help.ODD) {
            Due.due("cover(" + odd + ")", x.cover(odd), -1);
        }
        Due.due("it is covered", x.cover(6), -5);
        Due.same("cover, errors change nothing", Help.all(x), seen);
        Due.due("cover(11)", x.cover(11), 2);
        Due.due("cover(11) again: one lies there", x.cover(11), -5);
        Due.due("cover(0)", x.cover(0), 3);
        Due.due("they lie there", x.count(3), 1 << 11 | 1);
        Due.due("of(11, 2)", x.of(11, 2), 1);
    }

    private static void pass() {
        PianoCovers x = new PianoCovers();
        x.piano(0, 0);
        String seen = Help.all(x);
        Due.due("pass(0)", x.pass(0), -2);
        Due.due("pass(100)", x.pass(100), -2);
        for (int odd : Help.ODD) {
            Due.due("pass(" + odd + ")", x.pass(odd), -2);
        }
        Due.same("pass, errors change nothing", Help.all(x), seen);
        Due.due("pass(8)", x.pass(8), 0);
        Due.due("pass(1)", x.pass(1), 10);
        Due.due("pass(2): 9 and 9", x.pass(2), 18);
        Due.due("eleven hours", x.count(0), 11);
        Due.due("coins so far", x.count(5), 28);
        Due.due("pass(99)", x.pass(99) > 0 ? 1 : 0, 1);
        Due.due("hours so far", x.count(0), 110);
    }

    private static void passUpToTheBound() {
        PianoCovers x = new PianoCovers();
        x.piano(0, 0);
        Help.passAll(x, 9950);
        Due.due("near the bound", x.count(0), 9950);
        Due.due("pass(50) is one too many", x.pass(50), -5);
        Due.due("pass(100): the range first", x.pass(100), -2);
        Due.due("nothing passed", x.count(0), 9950);
        Due.due("pass(49)", x.pass(49) >= 0 ? 1 : 0, 1);
        Due.due("at the bound", x.count(0), 9999);
        Due.due("pass(1)", x.pass(1), -5);
        x.rain(Help.ALL_HOURS);
        Due.due("what-ifs go beyond the bound", x.willBeWet(99), 1);
        x.cover(0);
        x.keeper(2);
        Due.due("and further", x.coveredIn(0), 3);
        Due.due("and compare", x.bestPlace(48, 0), 0);
        Due.due("still at the bound", x.count(0), 9999);
        x.undo();
        x.undo();
        x.undo();
        x.undo();
        Due.due("back", x.count(0), 9950);
    }
}
