import java.util.function.ToIntFunction;

/** The sentences of promises 9 to 12 that name a boundary. */
final class BoundariesOfLooks {
    private BoundariesOfLooks() { }

    static void run() {
        of();
        ofKeeper();
        count();
        worst();
    }

    /** A call that only looks is recorded nowhere, whether it answers an error or not. */
    static void changesNothing(String call, ToIntFunction<PianoCovers> look) {
        PianoCovers x = Made.rich();
        Due.due(call + " is no error", look.applyAsInt(x) >= 0 ? 1 : 0, 1);
        Due.same("behind " + call, Made.life(x), Made.life(Made.rich()));
    }

    private static void of() {
        Sentence.holds("Promise 9", "Returns something about a piano", () -> changesNothing("of", x -> x.of(2, 5)));
        Sentence.holds("Promise 9", "what: 0 its pitch", BoundariesOfLooks::whatOfAPiano);
        Sentence.holds("Promise 9", "2 its cover, 0 to 2", BoundariesOfLooks::coverOfAPiano);
        Sentence.holds("Promise 9", "3 coins that it brought so far", BoundariesOfLooks::coinsOfAPiano);
        Sentence.holds("Promise 9", "4 hours so far in which it rained on it", BoundariesOfLooks::rainOnAPiano);
        Sentence.holds("Promise 9", "5 keepers at its place, how many", BoundariesOfLooks::keepersAtAPiano);
        Sentence.holds("Promise 9", "NO_SUCH if there is none in the place", BoundariesOfLooks::ofNone);
        Sentence.holds("Promise 9", "BAD_VALUE if what is out of range", BoundariesOfLooks::ofNoWhat);
    }

    private static void whatOfAPiano() {
        PianoCovers x = Made.rich();
        // Rain in hour 0; 5 was covered then, and is again from hour 8 on; 2 and 9 were played in 8 and 9.
        int[][] rows = {{2, 95, 0, 1, 63, 1, 0}, {5, 100, 0, 2, 0, 0, 0}, {9, 98, 0, 0, 65, 0, 0}};
        for (int[] row : rows) {
            for (int what = 0; what <= 5; what++) {
                Due.due("of(" + row[0] + ", " + what + ")", x.of(row[0], what), row[1 + what]);
            }
        }
    }

    private static void coverOfAPiano() {
        PianoCovers x = Made.rich();
        Due.due("0: none", x.of(9, 2), 0);
        Due.due("1: it lies there", x.of(2, 2), 1);
        Due.due("2: it is on it", x.of(5, 2), 2);
    }

    private static void coinsOfAPiano() {
        PianoCovers x = Made.at(8);
        x.piano(0, 0);
        Due.due("none yet", x.of(0, 3), 0);
        x.pass(1);
        Due.due("one hour", x.of(0, 3), 10);
        x.piano(11, 0);
        x.pass(1);
        Due.due("two hours", x.of(0, 3), 19);
        Due.due("the other one", x.of(11, 3), 10);
        x.take(0);
        x.piano(0, 0);
        Due.due("a new one brought none", x.of(0, 3), 0);
        Due.due("all of them, also of those taken", x.count(5), 29);
    }

    private static void rainOnAPiano() {
        PianoCovers x = new PianoCovers();
        x.piano(0, 0);
        x.rain(Help.hour(1));
        x.pass(1);
        Due.due("none yet", x.of(0, 4), 0);
        x.pass(1);
        Due.due("hour 1", x.of(0, 4), 1);
        x.pass(24);
        Due.due("and that of the next day", x.of(0, 4), 2);
        x.take(0);
        x.piano(0, 0);
        Due.due("on a new one none", x.of(0, 4), 0);
    }

    private static void keepersAtAPiano() {
        PianoCovers x = new PianoCovers();
        x.piano(0, 0);
        x.keeper(1);
        Due.due("one beside it", x.of(0, 5), 0);
        for (int keepers = 1; keepers <= 3; keepers++) {
            x.keeper(0);
            Due.due("at its place", x.of(0, 5), keepers);
        }
        PianoCovers y = new PianoCovers();
        y.piano(11, 0);
        for (int keeper = 0; keeper < 4; keeper++) {
            y.keeper(11);
        }
        Due.due("all four", y.of(11, 5), 4);
    }

    private static void ofNone() {
        Made.refused("of(3, 0)", x -> x.of(3, 0), PianoCovers.NO_SUCH);
        Made.refused("of(-1, 0)", x -> x.of(-1, 0), PianoCovers.NO_SUCH);
        Made.refused("of(12, 0)", x -> x.of(12, 0), PianoCovers.NO_SUCH);
        Made.refused("of(12, 0) of twelve", Made::withTwelvePianos, x -> x.of(12, 0), PianoCovers.NO_SUCH);
        Made.refused("of(34, 0): 2 is there", x -> x.of(34, 0), PianoCovers.NO_SUCH);
        Made.refused("of(MIN, 0)", x -> x.of(Integer.MIN_VALUE, 0), PianoCovers.NO_SUCH);
        Made.refused("of(MAX, 0)", x -> x.of(Integer.MAX_VALUE, 0), PianoCovers.NO_SUCH);
        Due.due("of(11, 0) of twelve", Made.withTwelvePianos().of(11, 0), 100);
        Due.due("of(0, 0) of twelve", Made.withTwelvePianos().of(0, 0), 100);
    }

    private static void ofNoWhat() {
        Made.refused("of(2, -1)", x -> x.of(2, -1), PianoCovers.BAD_VALUE);
        Made.refused("of(2, 6)", x -> x.of(2, 6), PianoCovers.BAD_VALUE);
        Made.refused("of(2, MIN)", x -> x.of(2, Integer.MIN_VALUE), PianoCovers.BAD_VALUE);
        Made.refused("of(2, MAX)", x -> x.of(2, Integer.MAX_VALUE), PianoCovers.BAD_VALUE);
    }

    private static void ofKeeper() {
        Sentence.holds("Promise 10", "Returns something about a keeper",
            () -> changesNothing("ofKeeper", x -> x.ofKeeper(1, 4)));
        Sentence.holds("Promise 10", "what: 0 its place, 1 how often it covered so far, "
            + "2 opened, 3 tuned, 4 places that it went",
            BoundariesOfLooks::whatOfAKeeper);
        Sentence.holds("Promise 10", "NO_SUCH if there is no such keeper", BoundariesOfLooks::ofNoKeeper);
        Sentence.holds("Promise 10", "BAD_VALUE if what is out of range", BoundariesOfLooks::ofKeeperNoWhat);
    }

    private static void whatOfAKeeper() {
        PianoCovers x = Made.rich();
        int[][] rows = {{4, 2, 1, 0, 1}, {10, 0, 0, 0, 1}};
        for (int keeper = 0; keeper <= 1; keeper++) {
            for (int what = 0; what <= 4; what++) {
                Due.due("ofKeeper(" + keeper + ", " + what + ")", x.ofKeeper(keeper, what), rows[keeper][what]);
            }
        }
        x.set(PianoCovers.TUNE, 100);
        x.rain(0);
        x.take(2);
        x.take(5);
        x.pass(2);
        Due.due("keeper 0 goes to tune 9", x.ofKeeper(0, 4), 3);
        Due.due("keeper 1 may not choose it", x.ofKeeper(1, 3), 0);
        x.pass(4);
        Due.due("keeper 0 tuned", x.ofKeeper(0, 3), 1);
    }

    private static void ofNoKeeper() {
        Made.refused("ofKeeper(-1, 0)", x -> x.ofKeeper(-1, 0), PianoCovers.NO_SUCH);
        Made.refused("ofKeeper(2, 0) of two", x -> x.ofKeeper(2, 0), PianoCovers.NO_SUCH);
        Made.refused("ofKeeper(3, 0) of two", x -> x.ofKeeper(3, 0), PianoCovers.NO_SUCH);
        Made.refused("ofKeeper(4, 0) of four", Made::withFourKeepers, x -> x.ofKeeper(4, 0), PianoCovers.NO_SUCH);
        Made.refused("ofKeeper(0, 0) of none", PianoCovers::new, x -> x.ofKeeper(0, 0), PianoCovers.NO_SUCH);
        Made.refused("ofKeeper(MIN, 0)", x -> x.ofKeeper(Integer.MIN_VALUE, 0), PianoCovers.NO_SUCH);
        Made.refused("ofKeeper(MAX, 0)", x -> x.ofKeeper(Integer.MAX_VALUE, 0), PianoCovers.NO_SUCH);
        Due.due("ofKeeper(1, 0) of two", Made.rich().ofKeeper(1, 0), 10);
        Due.due("ofKeeper(3, 0) of four", Made.withFourKeepers().ofKeeper(3, 0), 11);
    }

    private static void ofKeeperNoWhat() {
        Made.refused("ofKeeper(0, -1)", x -> x.ofKeeper(0, -1), PianoCovers.BAD_VALUE);
        Made.refused("ofKeeper(0, 5)", x -> x.ofKeeper(0, 5), PianoCovers.BAD_VALUE);
        Made.refused("ofKeeper(0, MIN)", x -> x.ofKeeper(0, Integer.MIN_VALUE), PianoCovers.BAD_VALUE);
        Made.refused("ofKeeper(0, MAX)", x -> x.ofKeeper(0, Integer.MAX_VALUE), PianoCovers.BAD_VALUE);
    }

    private static void count() {
        Sentence.holds("Promise 11", "Returns a number", () -> changesNothing("count", x -> x.count(18)));
        Sentence.holds("Promise 11", "what: 0 hours so far", BoundariesOfLooks::whatToCount);
        Sentence.holds("Promise 11", "8 whether rain is ahead (1 or 0), 9 whether it rains in the hour of now",
            BoundariesOfLooks::whetherItRains);
        Sentence.holds("Promise 11", "10 to 16 the settings", BoundariesOfLooks::settingsToCount);
        Sentence.holds("Promise 11", "17 the length of the pad", BoundariesOfLooks::lengthOfThePad);
        Sentence.holds("Promise 11", "18 how many changes can be undone", BoundariesOfLooks::changesThatCanBeUndone);
        Sentence.holds("Promise 11", "BAD_VALUE if what is out of range", BoundariesOfLooks::countNoWhat);
    }

    private static void whatToCount() {
        PianoCovers x = Made.rich();
        int[] due = {10, 1 << 2 | 1 << 5 | 1 << 9, 1 << 5, 1 << 2, 2, 63 + 65, 0, 1 | 1 << 10, 1, 1,
            2, 20, 4, 3, 33, 60, 7, 6, 6};
        for (int what = 0; what <= 18; what++) {
            Due.due("count(" + what + ")", x.count(what), due[what]);
        }
        x.set(PianoCovers.THIEF, 1);
        x.pass(13);
        Due.due("covers stolen", x.count(6), 1);
    }

    private static void whetherItRains() {
        PianoCovers x = new PianoCovers();
        x.rain(Help.hour(3));
        int[][] rows = {{0, 0}, {1, 0}, {1, 0}, {1, 1}, {0, 0}};
        for (int hour = 0; hour < 5; hour++) {
            Due.due("ahead in hour " + hour, x.count(8), rows[hour][0]);
            Due.due("rains in hour " + hour, x.count(9), rows[hour][1]);
            x.pass(1);
        }
    }

    private static void settingsToCount() {
        PianoCovers x = new PianoCovers();
        for (int setting = 0; setting < 7; setting++) {
            x.set(setting, 11 + setting);
        }
        for (int setting = 0; setting < 7; setting++) {
            Due.due("count(" + (10 + setting) + ")", x.count(10 + setting), 11 + setting);
        }
    }

    private static void lengthOfThePad() {
        PianoCovers x = new PianoCovers();
        Due.due("empty", x.count(17), 0);
        x.put('a');
        Due.due("one", x.count(17), 1);
        Due.due("full", Made.withFullPad().count(17), 80);
    }

    private static void changesThatCanBeUndone() {
        PianoCovers x = new PianoCovers();
        for (int changes = 0; changes <= 8; changes++) {
            Due.due("behind " + changes + " changes", x.count(18), Math.min(6, changes));
            x.rain(changes);
        }
        x.undo();
        Due.due("one undone", x.count(18), 5);
    }

    private static void countNoWhat() {
        Made.refused("count(-1)", x -> x.count(-1), PianoCovers.BAD_VALUE);
        Made.refused("count(19)", x -> x.count(19), PianoCovers.BAD_VALUE);
        Made.refused("count(MIN)", x -> x.count(Integer.MIN_VALUE), PianoCovers.BAD_VALUE);
        Made.refused("count(MAX)", x -> x.count(Integer.MAX_VALUE), PianoCovers.BAD_VALUE);
    }

    private static void worst() {
        Sentence.holds("Promise 12", "Finds the piano that is worst",
            () -> changesNothing("worst", PianoCovers::worst));
        Sentence.holds("Promise 12", "with the least pitch less damp", BoundariesOfLooks::leastPitchLessDamp);
        Sentence.holds("Promise 12", "of several that in the lowest place", BoundariesOfLooks::lowestOfTheWorst);
        Sentence.holds("Promise 12", "NONE if there is none", BoundariesOfLooks::noWorst);
    }

    private static void leastPitchLessDamp() {
        PianoCovers x = new PianoCovers();
        x.set(PianoCovers.WET, 1);
        x.rain(Help.hour(0, 1));
        x.piano(3, 0);
        x.pass(1);
        x.piano(0, 0);
        x.set(PianoCovers.FALL, 0);
        x.set(PianoCovers.WET, 5);
        x.pass(1);
        Due.due("3 at 97 less 6, 0 at 100 less 5", x.worst(), 3);
        x.set(PianoCovers.DRY, 1);
        x.pass(1);
        Due.due("3 at 92, 0 at 96", x.worst(), 3);
        x.piano(11, 0);
        Due.due("a fresh one is not worse", x.worst(), 3);
        x.take(3);
        Due.due("0 at 96 then", x.worst(), 0);
        PianoCovers y = new PianoCovers();
        y.set(PianoCovers.FALL, 20);
        y.set(PianoCovers.WET, 1);
        y.rain(Help.hour(0, 1));
        y.piano(4, 1);
        y.pass(1);
        y.keeper(4);
        y.piano(8, 0);
        y.set(PianoCovers.FALL, 0);
        y.set(PianoCovers.WET, 50);
        y.pass(1);
        Due.due("4 was covered: 80 less 1", y.of(4, 0) * 1000 + y.of(4, 1), 80001);
        Due.due("8 was not: 100 less 50", y.of(8, 0) * 1000 + y.of(8, 1), 100050);
        Due.due("so the one with more pitch is worst", y.worst(), 8);
        PianoCovers z = new PianoCovers();
        z.set(PianoCovers.FALL, 20);
        z.rain(Help.ALL_HOURS);
        z.piano(7, 0);
        z.pass(6);
        Due.due("100 below 0", z.of(7, 0) - z.of(7, 1), -100);
        z.piano(0, 0);
        Due.due("is found as well", z.worst(), 7);
    }

    private static void lowestOfTheWorst() {
        PianoCovers x = Made.withTwelvePianos();
        for (int place = 0; place < 12; place++) {
            Due.due("of those from " + place + " on", x.worst(), place);
            x.take(place);
        }
    }

    private static void noWorst() {
        PianoCovers x = new PianoCovers();
        Due.due("none came", x.worst(), PianoCovers.NONE);
        x.piano(11, 0);
        Due.due("one", x.worst(), 11);
        x.take(11);
        Due.due("it was taken", x.worst(), PianoCovers.NONE);
    }
}
