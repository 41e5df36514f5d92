/** The sentences of promises 1 to 8 that name a boundary. */
final class BoundariesOfChanges {
    private static final int[] FIRST = {2, 20, 4, 3, 10, 60, 7};

    private BoundariesOfChanges() { }

    static void run() {
        newObjectAndSet();
        rain();
        piano();
        takeAndKeeper();
        coverAndPass();
    }

    /** A call that answers no error is recorded, and undone. */
    private static void isAChange(java.util.function.ToIntFunction<PianoCovers> call) {
        PianoCovers x = Made.rich();
        x.undo();
        x.undo();
        String seen = Help.street(x);
        int before = x.count(18);
        Due.due("no error", call.applyAsInt(x) >= 0 ? 1 : 0, 1);
        Due.due("one more can be undone", x.count(18), before + 1);
        x.undo();
        Due.same("undone", Help.street(x), seen);
    }

    private static void newObjectAndSet() {
        Sentence.holds("Promise 1", "Creates a street without pianos, keepers and rain",
            BoundariesOfChanges::newObject);
        Sentence.holds("Promise 2", "Changes a setting. This is a change", () -> isAChange(x -> x.set(6, 20)));
        Sentence.holds("Promise 2", "Returns the previous value", BoundariesOfChanges::setReturnsThePrevious);
        Sentence.holds("Promise 2", "BAD_VALUE if there is no such setting", BoundariesOfChanges::noSuchSetting);
        Sentence.holds("Promise 2", "or the value is out of its range", BoundariesOfChanges::valueOutOfItsRange);
    }

    private static void newObject() {
        PianoCovers x = new PianoCovers();
        for (int what = 0; what <= 18; what++) {
            Due.due("count(" + what + ")", x.count(what), what >= 10 && what <= 16 ? FIRST[what - 10] : 0);
        }
        for (int place = 0; place < 12; place++) {
            Due.due("piano at " + place, x.of(place, 0), PianoCovers.NO_SUCH);
        }
        Due.due("keeper 0", x.ofKeeper(0, 0), PianoCovers.NO_SUCH);
        Due.due("rain", x.rainIn(), PianoCovers.NONE);
        Due.due("worst", x.worst(), PianoCovers.NONE);
        Due.due("undo", x.undo(), PianoCovers.NOT_POSSIBLE);
        Due.due("slot 0", x.restore(0), PianoCovers.NOT_POSSIBLE);
        Due.due("slot 1", x.restore(1), PianoCovers.NOT_POSSIBLE);
        Due.due("pad", x.wipe(), 0);
    }

    private static void setReturnsThePrevious() {
        PianoCovers x = new PianoCovers();
        Due.due("the first one", x.set(0, 0), 2);
        Due.due("0 is no error", x.set(0, 12), 0);
        Due.due("the latest", x.set(0, 12), 12);
        Due.due("three changes", x.count(18), 3);
    }

    private static void noSuchSetting() {
        Due.due("6 is the last one", new PianoCovers().set(6, 1), 7);
        Made.refused("set(-1, 1)", x -> x.set(-1, 1), PianoCovers.BAD_VALUE);
        Made.refused("set(7, 1)", x -> x.set(7, 1), PianoCovers.BAD_VALUE);
        Made.refused("set(MIN, 1)", x -> x.set(Integer.MIN_VALUE, 1), PianoCovers.BAD_VALUE);
        Made.refused("set(MAX, 1)", x -> x.set(Integer.MAX_VALUE, 1), PianoCovers.BAD_VALUE);
    }

    /** The ranges of all settings stand with the term "Settings". */
    private static void valueOutOfItsRange() {
        Made.refused("set(WET, 0)", x -> x.set(PianoCovers.WET, 0), PianoCovers.BAD_VALUE);
        Made.refused("set(WET, 51)", x -> x.set(PianoCovers.WET, 51), PianoCovers.BAD_VALUE);
        Due.due("50 is in it", new PianoCovers().set(PianoCovers.WET, 50), 20);
        Due.due("1 is, too", new PianoCovers().set(PianoCovers.WET, 1), 20);
    }

    private static void rain() {
        Sentence.holds("Promise 3", "Tells in which hours it rains. This is a change", () -> isAChange(x -> x.rain(6)));
        Sentence.holds("Promise 3", "hours: a set of hours, 0 to 16777215", BoundariesOfChanges::hoursOfRain);
        Sentence.holds("Promise 3", "Returns the previous set", BoundariesOfChanges::rainReturnsThePrevious);
        Sentence.holds("Promise 3", "BAD_VALUE if hours is out of range", BoundariesOfChanges::hoursOfRainOutOfRange);
    }

    private static void hoursOfRain() {
        PianoCovers x = new PianoCovers();
        Due.due("all", x.rain(16777215), 0);
        Due.due("it rains", x.count(9), 1);
        Due.due("none", x.rain(0), 16777215);
        Due.due("it never rains", x.rainIn(), PianoCovers.NONE);
    }

    private static void rainReturnsThePrevious() {
        PianoCovers x = new PianoCovers();
        Due.due("none at first", x.rain(0), 0);
        Due.due("the empty set is no error", x.rain(8), 0);
        Due.due("the latest", x.rain(8), 8);
        Due.due("three changes", x.count(18), 3);
    }

    private static void hoursOfRainOutOfRange() {
        Made.refused("rain(-1)", x -> x.rain(-1), PianoCovers.BAD_VALUE);
        Made.refused("rain(16777216)", x -> x.rain(16777216), PianoCovers.BAD_VALUE);
        Made.refused("rain(MIN)", x -> x.rain(Integer.MIN_VALUE), PianoCovers.BAD_VALUE);
        Made.refused("rain(MAX)", x -> x.rain(Integer.MAX_VALUE), PianoCovers.BAD_VALUE);
    }

    private static void piano() {
        Sentence.holds("Promise 4", "A piano comes, open. This is a change", () -> isAChange(x -> x.piano(0, 1)));
        Sentence.holds("Promise 4", "A piano comes, open", BoundariesOfChanges::pianoComesOpen);
        Sentence.holds("Promise 4", "cover: 1 with a cover that lies there, 0 without",
            BoundariesOfChanges::coverOrNot);
        Sentence.holds("Promise 4", "Returns how many pianos there are then", BoundariesOfChanges::pianosThen);
        Sentence.holds("Promise 4", "NO_SUCH if there is no such place", BoundariesOfChanges::pianoAtNoSuchPlace);
        Sentence.holds("Promise 4", "BAD_VALUE if cover is neither", BoundariesOfChanges::coverIsNeither);
        Sentence.holds("Promise 4", "NOT_POSSIBLE if there is one", BoundariesOfChanges::thereIsOne);
    }

    private static void pianoComesOpen() {
        PianoCovers x = new PianoCovers();
        x.rain(Help.ALL_HOURS);
        x.keeper(3);
        x.piano(3, 1);
        x.pass(1);
        Due.due("the one before is covered", x.of(3, 2), 2);
        x.take(3);
        x.piano(3, 1);
        Due.due("one that comes behind it is open", x.of(3, 2), 1);
        Due.due("none is covered", x.count(2), 0);
    }

    private static void coverOrNot() {
        PianoCovers x = new PianoCovers();
        x.piano(0, 0);
        x.piano(11, 1);
        Due.due("0", x.of(0, 2), 0);
        Due.due("1", x.of(11, 2), 1);
    }

    private static void pianosThen() {
        PianoCovers x = new PianoCovers();
        for (int place = 11; place >= 0; place--) {
            Due.due("piano(" + place + ", 0)", x.piano(place, 0), 12 - place);
        }
    }

    private static void pianoAtNoSuchPlace() {
        Made.refused("piano(-1, 0)", x -> x.piano(-1, 0), PianoCovers.NO_SUCH);
        Made.refused("piano(12, 0)", x -> x.piano(12, 0), PianoCovers.NO_SUCH);
        Made.refused("piano(32, 1)", x -> x.piano(32, 1), PianoCovers.NO_SUCH);
        Made.refused("piano(MIN, 0)", x -> x.piano(Integer.MIN_VALUE, 0), PianoCovers.NO_SUCH);
        Made.refused("piano(MAX, 0)", x -> x.piano(Integer.MAX_VALUE, 0), PianoCovers.NO_SUCH);
    }

    private static void coverIsNeither() {
        Made.refused("piano(0, -1)", x -> x.piano(0, -1), PianoCovers.BAD_VALUE);
        Made.refused("piano(0, 2)", x -> x.piano(0, 2), PianoCovers.BAD_VALUE);
        Made.refused("piano(0, MIN)", x -> x.piano(0, Integer.MIN_VALUE), PianoCovers.BAD_VALUE);
        Made.refused("piano(0, MAX)", x -> x.piano(0, Integer.MAX_VALUE), PianoCovers.BAD_VALUE);
    }

    private static void thereIsOne() {
        Made.refused("piano(2, 0), a cover lies there", x -> x.piano(2, 0), PianoCovers.NOT_POSSIBLE);
        Made.refused("piano(5, 1), covered", x -> x.piano(5, 1), PianoCovers.NOT_POSSIBLE);
        Made.refused("piano(9, 1), without a cover", x -> x.piano(9, 1), PianoCovers.NOT_POSSIBLE);
        Made.refused("piano(0, 1), twelve there", Made::withTwelvePianos, x -> x.piano(0, 1), PianoCovers.NOT_POSSIBLE);
    }

    private static void takeAndKeeper() {
        Sentence.holds("Promise 5", "A piano is taken away, with its cover. This is a change",
            () -> isAChange(x -> x.take(5)));
        Sentence.holds("Promise 5", "with its cover", BoundariesOfChanges::takenWithItsCover);
        Sentence.holds("Promise 5", "Returns how many are left", BoundariesOfChanges::pianosLeft);
        Sentence.holds("Promise 5", "NO_SUCH if there is none in the place", BoundariesOfChanges::takeWhereNoneIs);
        Sentence.holds("Promise 6", "A keeper comes. This is a change", () -> isAChange(x -> x.keeper(0)));
        Sentence.holds("Promise 6", "Returns its number", BoundariesOfChanges::numberOfTheKeeper);
        Sentence.holds("Promise 6", "NO_SUCH if there is no such place", BoundariesOfChanges::keeperAtNoSuchPlace);
        Sentence.holds("Promise 6", "TOO_MANY if there are 4 keepers", BoundariesOfChanges::fourKeepers);
    }

    private static void takenWithItsCover() {
        PianoCovers x = Made.rich();
        Due.due("2 has a cover that lies there, 5 is covered", x.count(3) << 12 | x.count(2), 1 << 14 | 1 << 5);
        x.take(2);
        Due.due("none lies", x.count(3), 0);
        x.take(5);
        Due.due("none is covered", x.count(2), 0);
        x.piano(5, 0);
        Due.due("the next one there has none", x.of(5, 2), 0);
        Due.due("covers that lie then", x.cover(9), 1);
    }

    private static void pianosLeft() {
        PianoCovers x = Made.withTwelvePianos();
        for (int place = 0; place < 12; place++) {
            Due.due("take(" + place + ")", x.take(place), 11 - place);
        }
        Due.due("none is left to take", x.take(11), PianoCovers.NO_SUCH);
    }

    private static void takeWhereNoneIs() {
        Made.refused("take(3)", x -> x.take(3), PianoCovers.NO_SUCH);
        Made.refused("take(-1)", x -> x.take(-1), PianoCovers.NO_SUCH);
        Made.refused("take(12)", x -> x.take(12), PianoCovers.NO_SUCH);
        Made.refused("take(12) of twelve", Made::withTwelvePianos, x -> x.take(12), PianoCovers.NO_SUCH);
        Made.refused("take(34): 2 is there", x -> x.take(34), PianoCovers.NO_SUCH);
        Made.refused("take(MIN)", x -> x.take(Integer.MIN_VALUE), PianoCovers.NO_SUCH);
        Made.refused("take(MAX)", x -> x.take(Integer.MAX_VALUE), PianoCovers.NO_SUCH);
    }

    private static void numberOfTheKeeper() {
        PianoCovers x = new PianoCovers();
        for (int keeper = 0; keeper < 4; keeper++) {
            Due.due("keeper", x.keeper(11 - keeper), keeper);
        }
    }

    private static void keeperAtNoSuchPlace() {
        Made.refused("keeper(-1)", x -> x.keeper(-1), PianoCovers.NO_SUCH);
        Made.refused("keeper(12)", x -> x.keeper(12), PianoCovers.NO_SUCH);
        Made.refused("keeper(MIN)", x -> x.keeper(Integer.MIN_VALUE), PianoCovers.NO_SUCH);
        Made.refused("keeper(MAX)", x -> x.keeper(Integer.MAX_VALUE), PianoCovers.NO_SUCH);
    }

    private static void fourKeepers() {
        PianoCovers x = Made.rich();
        Due.due("the third", x.keeper(0), 2);
        Due.due("the fourth", x.keeper(0), 3);
        Made.refused("the fifth", Made::withFourKeepers, y -> y.keeper(0), PianoCovers.TOO_MANY);
        Made.refused("the fifth at 11", Made::withFourKeepers, y -> y.keeper(11), PianoCovers.TOO_MANY);
    }

    private static void coverAndPass() {
        Sentence.holds("Promise 7", "A new cover is laid at a piano. This is a change",
            () -> isAChange(x -> x.cover(9)));
        Sentence.holds("Promise 7", "Returns how many pianos have one then", BoundariesOfChanges::pianosWithCover);
        Sentence.holds("Promise 7", "NO_SUCH if there is no piano in the place", BoundariesOfChanges::coverWhereNoneIs);
        Sentence.holds("Promise 7", "NOT_POSSIBLE if it has one", BoundariesOfChanges::itHasOne);
        Sentence.holds("Promise 8", "Hours pass. This is a change", () -> isAChange(x -> x.pass(50)));
        Sentence.holds("Promise 8", "hours: 1 to 99", BoundariesOfChanges::hoursToPass);
        Sentence.holds("Promise 8", "Returns the coins that they bring", BoundariesOfChanges::coinsOfThem);
        Sentence.holds("Promise 8", "BAD_VALUE if hours is out of range", BoundariesOfChanges::hoursOutOfRange);
        Sentence.holds("Promise 8", "NOT_POSSIBLE if there would be more than 9999 hours",
            BoundariesOfChanges::moreThan9999Hours);
    }

    private static void pianosWithCover() {
        PianoCovers x = Made.rich();
        Due.due("one lies there, one is on it, and a new one", x.cover(9), 3);
        Due.due("it lies there", x.of(9, 2), 1);
        PianoCovers y = new PianoCovers();
        for (int place = 0; place < 12; place++) {
            y.piano(place, 0);
        }
        for (int place = 0; place < 12; place++) {
            Due.due("cover(" + place + ")", y.cover(place), place + 1);
        }
    }

    private static void coverWhereNoneIs() {
        Made.refused("cover(3)", x -> x.cover(3), PianoCovers.NO_SUCH);
        Made.refused("cover(-1)", x -> x.cover(-1), PianoCovers.NO_SUCH);
        Made.refused("cover(12)", x -> x.cover(12), PianoCovers.NO_SUCH);
        Made.refused("cover(12) of twelve", Made::withTwelvePianos, x -> x.cover(12), PianoCovers.NO_SUCH);
        Made.refused("cover(41): 9 is there", x -> x.cover(41), PianoCovers.NO_SUCH);
        Made.refused("cover(MIN)", x -> x.cover(Integer.MIN_VALUE), PianoCovers.NO_SUCH);
        Made.refused("cover(MAX)", x -> x.cover(Integer.MAX_VALUE), PianoCovers.NO_SUCH);
    }

    private static void itHasOne() {
        Made.refused("cover(2): one lies there", x -> x.cover(2), PianoCovers.NOT_POSSIBLE);
        Made.refused("cover(5): it is covered", x -> x.cover(5), PianoCovers.NOT_POSSIBLE);
        PianoCovers x = new PianoCovers();
        x.set(PianoCovers.THIEF, 1);
        x.piano(0, 1);
        Due.due("one lies there", x.cover(0), PianoCovers.NOT_POSSIBLE);
        x.pass(1);
        Due.due("it was stolen, and a new one comes", x.cover(0), 1);
    }

    private static void hoursToPass() {
        PianoCovers x = new PianoCovers();
        Due.due("pass(1)", x.pass(1), 0);
        Due.due("1", x.count(0), 1);
        Due.due("pass(99)", x.pass(99), 0);
        Due.due("100", x.count(0), 100);
    }

    private static void coinsOfThem() {
        PianoCovers x = Made.at(7);
        x.piano(0, 0);
        Due.due("hours 7 and 8", x.pass(2), 10);
        Due.due("hour 9 alone, not those before", x.pass(1), 9);
        Due.due("so far", x.count(5), 19);
    }

    private static void hoursOutOfRange() {
        Made.refused("pass(0)", x -> x.pass(0), PianoCovers.BAD_VALUE);
        Made.refused("pass(-1)", x -> x.pass(-1), PianoCovers.BAD_VALUE);
        Made.refused("pass(100)", x -> x.pass(100), PianoCovers.BAD_VALUE);
        Made.refused("pass(MIN)", x -> x.pass(Integer.MIN_VALUE), PianoCovers.BAD_VALUE);
        Made.refused("pass(MAX)", x -> x.pass(Integer.MAX_VALUE), PianoCovers.BAD_VALUE);
    }

    private static void moreThan9999Hours() {
        PianoCovers x = Made.at(9900);
        Due.due("just 9999", x.pass(99), 0);
        Due.due("hours", x.count(0), 9999);
        x = Made.at(9998);
        Due.due("one more than 9999", x.pass(2), PianoCovers.NOT_POSSIBLE);
        Due.due("just 9999 by one", x.pass(1), 0);
        Made.refused("pass(99) at 9901", () -> Made.at(9901), y -> y.pass(99), PianoCovers.NOT_POSSIBLE);
        Made.refused("pass(1) at 9999", Made::with9999Hours, y -> y.pass(1), PianoCovers.NOT_POSSIBLE);
        Made.refused("pass(99) at 9999", Made::with9999Hours, y -> y.pass(99), PianoCovers.NOT_POSSIBLE);
    }
}
