/** The sentences of the term "An hour" that name a boundary. */
final class BoundariesOfHours {
    private BoundariesOfHours() { }

    static void run() {
        keepersCoverAndOpen();
        keepersTune();
        rain();
        playing();
        thieves();
        hour("Then the hour is counted (0 at first)", BoundariesOfHours::theHourIsCounted);
    }

    private static void hour(String words, Runnable test) {
        Sentence.holds("An hour", words, test);
    }

    /** Pianos without covers at these places, all with this pitch and dry but for a little; it rains no more. */
    private static PianoCovers damaged(int pitch, int... places) {
        PianoCovers x = new PianoCovers();
        for (int place : places) {
            x.piano(place, 0);
        }
        x.set(PianoCovers.WET, 1);
        x.rain(Help.ALL_HOURS);
        for (int down = 100 - pitch; down > 0; down -= 20) {
            x.set(PianoCovers.FALL, Math.min(20, down));
            x.pass(1);
        }
        x.rain(0);
        Due.due("pitch of the first one", x.of(places[0], 0), pitch);
        return x;
    }

    // ---- step 1

    private static void keepersCoverAndOpen() {
        hour("The keepers, from 0 on, each does one thing", BoundariesOfHours::oneThingEach);
        hour("Wanted is, if rain is ahead, that pianos whose cover lies there are covered",
            BoundariesOfHours::coveredIfRainIsAhead);
        hour("otherwise that pianos that are covered are opened", BoundariesOfHours::openedOtherwise);
        hour("and which no keeper ahead chose in this hour", BoundariesOfHours::noneThatAKeeperAheadChose);
        hour("a keeper chooses the nearest one", BoundariesOfHours::theNearest);
        hour("of several that in the lower place", BoundariesOfHours::ofSeveralTheLower);
        hour("at its place it is done (covered or opened)", BoundariesOfHours::atItsPlaceItIsDone);
        hour("otherwise the keeper goes one place towards it", BoundariesOfHours::goesOnePlaceTowards);
    }

    private static void oneThingEach() {
        PianoCovers x = new PianoCovers();
        x.rain(Help.ALL_HOURS);
        x.piano(4, 1);
        x.piano(5, 1);
        x.keeper(3);
        x.keeper(5);
        x.pass(1);
        Due.due("keeper 0 goes", x.ofKeeper(0, 0), 4);
        Due.due("and does not cover in the same hour", x.ofKeeper(0, 1), 0);
        Due.due("keeper 1 covers", x.ofKeeper(1, 1), 1);
        x.pass(1);
        Due.due("keeper 0 covers in the next one", x.ofKeeper(0, 1), 1);
        Due.due("and went once", x.ofKeeper(0, 4), 1);
    }

    private static void coveredIfRainIsAhead() {
        PianoCovers x = new PianoCovers();
        x.set(PianoCovers.WARN, 1);
        x.rain(Help.hour(3));
        x.piano(4, 1);
        x.keeper(4);
        x.pass(2);
        Due.due("hours 0 and 1: no rain ahead", x.of(4, 2), 1);
        x.pass(1);
        Due.due("hour 2: rain in the next one", x.of(4, 2), 2);
        PianoCovers y = new PianoCovers();
        y.rain(1);
        y.piano(4, 0);
        y.keeper(4);
        y.pass(1);
        Due.due("none is covered without a cover", y.of(4, 2), 0);
        Due.due("nor counted", y.ofKeeper(0, 1), 0);
    }

    private static void openedOtherwise() {
        PianoCovers x = new PianoCovers();
        x.set(PianoCovers.WARN, 1);
        x.rain(Help.hour(0, 1));
        x.piano(4, 1);
        x.keeper(4);
        x.pass(2);
        Due.due("hour 1: it rains still", x.of(4, 2), 2);
        x.pass(1);
        Due.due("hour 2: opened", x.of(4, 2), 1);
        Due.due("once", x.ofKeeper(0, 2), 1);
        x.pass(1);
        Due.due("an open one is not opened", x.ofKeeper(0, 2), 1);
    }

    private static void noneThatAKeeperAheadChose() {
        PianoCovers x = new PianoCovers();
        x.rain(Help.ALL_HOURS);
        x.piano(4, 1);
        x.keeper(2);
        x.keeper(4);
        x.pass(1);
        Due.due("keeper 0 chose it from afar: keeper 1 leaves it", x.of(4, 2), 1);
        Due.due("and stays", x.ofKeeper(1, 0), 4);
        PianoCovers y = new PianoCovers();
        y.rain(Help.ALL_HOURS);
        y.piano(4, 1);
        y.keeper(4);
        y.keeper(2);
        y.pass(1);
        Due.due("the other order: keeper 0 covers it", y.of(4, 2), 2);
        Due.due("keeper 1 has none", y.ofKeeper(1, 0), 2);
        PianoCovers z = new PianoCovers();
        z.rain(Help.ALL_HOURS);
        z.piano(4, 1);
        z.piano(8, 1);
        z.keeper(3);
        z.keeper(4);
        z.pass(1);
        Due.due("keeper 1 chooses another one", z.ofKeeper(1, 0), 5);
        z.pass(1);
        Due.due("keeper 0 covers it in the next hour", z.ofKeeper(0, 1), 1);
        Due.due("keeper 1 goes on", z.ofKeeper(1, 0), 6);
    }

    private static void theNearest() {
        int[][] rows = {
            // keeper, two pianos, where it is behind the hour
            {5, 2, 7, 6}, {5, 3, 8, 4}, {5, 5, 4, 5}, {0, 10, 11, 1}, {11, 0, 1, 10}, {0, 1, 11, 1}, {11, 0, 10, 10}};
        for (int[] row : rows) {
            Due.due("from " + row[0] + " to " + row[1] + " or " + row[2], placeBehindAnHour(row), row[3]);
        }
    }

    private static void ofSeveralTheLower() {
        int[][] rows = {{5, 4, 6, 4}, {5, 2, 8, 4}, {5, 0, 10, 4}, {6, 1, 11, 5}, {1, 0, 2, 0}, {10, 9, 11, 9}};
        for (int[] row : rows) {
            Due.due("from " + row[0] + " to " + row[1] + " or " + row[2], placeBehindAnHour(row), row[3]);
        }
    }

    private static int placeBehindAnHour(int[] row) {
        PianoCovers x = new PianoCovers();
        x.rain(1);
        x.keeper(row[0]);
        x.piano(row[1], 1);
        x.piano(row[2], 1);
        x.pass(1);
        return x.ofKeeper(0, 0);
    }

    private static void atItsPlaceItIsDone() {
        PianoCovers x = new PianoCovers();
        x.set(PianoCovers.WARN, 0);
        x.rain(Help.hour(0));
        x.piano(0, 1);
        x.piano(11, 1);
        x.keeper(0);
        x.keeper(11);
        x.pass(1);
        Due.due("covered at both ends of the row", x.count(2), 1 | 1 << 11);
        Due.due("keeper 0 covered one", x.ofKeeper(0, 1), 1);
        Due.due("keeper 1 covered one", x.ofKeeper(1, 1), 1);
        x.pass(1);
        Due.due("opened at both ends", x.count(3), 1 | 1 << 11);
        Due.due("keeper 0 opened one", x.ofKeeper(0, 2), 1);
        Due.due("keeper 1 opened one", x.ofKeeper(1, 2), 1);
        Due.due("nobody went", x.ofKeeper(0, 4) + x.ofKeeper(1, 4), 0);
    }

    private static void goesOnePlaceTowards() {
        PianoCovers x = new PianoCovers();
        x.set(PianoCovers.WARN, 0);
        x.rain(Help.hour(0, 1, 2));
        x.piano(7, 1);
        x.piano(4, 1);
        x.keeper(7);
        x.pass(1);
        Due.due("hour 0: it covers 7", x.count(2), 1 << 7);
        x.pass(2);
        Due.due("hours 1 and 2: it goes towards 4", x.ofKeeper(0, 0), 5);
        Due.due("which stays open", x.of(4, 2), 1);
        x.pass(2);
        Due.due("hours 3 and 4: it goes back to open 7", x.ofKeeper(0, 0), 7);
        Due.due("which stays covered", x.of(7, 2), 2);
        Due.due("it went four places", x.ofKeeper(0, 4), 4);
        x.pass(1);
        Due.due("hour 5: opened", x.of(7, 2), 1);
        int[][] ends = {{0, 11, 1}, {11, 0, 10}};
        for (int[] end : ends) {
            PianoCovers y = new PianoCovers();
            y.rain(1);
            y.keeper(end[0]);
            y.piano(end[1], 1);
            y.pass(1);
            Due.due("from one end towards the other", y.ofKeeper(0, 0), end[2]);
        }
    }

    private static void keepersTune() {
        hour("If there is none, the keeper chooses", BoundariesOfHours::tunesOnlyIfThereIsNone);
        hour("likewise among", BoundariesOfHours::tunesTheNearestOfSeveralTheLower);
        hour("open pianos with a pitch below TUNE", BoundariesOfHours::openPianosBelowTune);
        hour("(and which no keeper ahead chose)", BoundariesOfHours::tunesNoneThatAKeeperAheadChose);
        hour("at its place its pitch becomes 10 more, at most 100", BoundariesOfHours::tenMoreAtMost100);
        hour("otherwise the keeper goes one place towards it. If there is none either",
            BoundariesOfHours::goesOnePlaceToTune);
        hour("If there is none either, nothing is done", BoundariesOfHours::nothingIsDone);
    }

    private static void tunesOnlyIfThereIsNone() {
        PianoCovers x = damaged(40, 3);
        x.piano(9, 1);
        x.keeper(3);
        x.rain(Help.ALL_HOURS);
        x.set(PianoCovers.FALL, 0);
        x.pass(1);
        Due.due("rain is ahead, and 9 to cover", x.ofKeeper(0, 0), 4);
        x.take(9);
        x.pass(2);
        Due.due("none to cover: back, and tuned, rain or not", x.of(3, 0), 50);
    }

    private static void tunesTheNearestOfSeveralTheLower() {
        int[][] rows = {
            // keeper, two pianos, where it is behind the hour
            {5, 2, 7, 6}, {5, 3, 8, 4}, {5, 4, 6, 4}, {5, 2, 8, 4}, {0, 10, 11, 1}, {11, 0, 1, 10}, {6, 1, 11, 5}};
        for (int[] row : rows) {
            PianoCovers x = damaged(59, row[1], row[2]);
            x.keeper(row[0]);
            x.pass(1);
            Due.due("from " + row[0] + " to " + row[1] + " or " + row[2], x.ofKeeper(0, 0), row[3]);
        }
    }

    private static void openPianosBelowTune() {
        int[][] rows = {{59, 69}, {60, 60}, {61, 61}};
        for (int[] row : rows) {
            PianoCovers x = damaged(row[0], 3);
            x.keeper(3);
            x.pass(1);
            Due.due("pitch behind " + row[0], x.of(3, 0), row[1]);
            Due.due("tuned", x.ofKeeper(0, 3), row[0] < 60 ? 1 : 0);
        }
        PianoCovers x = damaged(40, 3);
        x.cover(3);
        x.rain(Help.ALL_HOURS);
        x.keeper(3);
        x.pass(3);
        Due.due("a covered one is not tuned", x.of(3, 0), 40);
        Due.due("it was covered", x.ofKeeper(0, 1), 1);
        PianoCovers y = damaged(40, 3);
        y.cover(3);
        y.keeper(3);
        y.pass(1);
        Due.due("one whose cover lies there is open: tuned", y.of(3, 0), 50);
    }

    private static void tunesNoneThatAKeeperAheadChose() {
        PianoCovers x = damaged(20, 3);
        x.keeper(5);
        x.keeper(3);
        x.pass(1);
        Due.due("keeper 0 chose it from afar: keeper 1 does not tune it", x.of(3, 0), 20);
        x.pass(2);
        Due.due("keeper 0 tunes it", x.ofKeeper(0, 3), 1);
        Due.due("keeper 1 does not tune it, too", x.of(3, 0), 30);
        PianoCovers y = damaged(20, 3);
        y.cover(3);
        y.keeper(4);
        y.keeper(3);
        y.rain(Help.ALL_HOURS);
        y.set(PianoCovers.FALL, 0);
        y.pass(1);
        Due.due("keeper 0 chose it to cover it: keeper 1 does not tune it", y.of(3, 0), 20);
        PianoCovers z = damaged(20, 3, 4);
        z.keeper(3);
        z.keeper(3);
        z.pass(1);
        Due.due("keeper 1 goes to another one", z.ofKeeper(1, 0), 4);
        z.pass(1);
        Due.due("and tunes that", z.ofKeeper(1, 3), 1);
    }

    private static void tenMoreAtMost100() {
        int[][] rows = {{0, 10}, {50, 60}, {89, 99}, {90, 100}, {91, 100}, {99, 100}, {100, 100}};
        for (int[] row : rows) {
            PianoCovers x = damaged(row[0], 3);
            x.set(PianoCovers.TUNE, 100);
            x.keeper(3);
            x.pass(1);
            Due.due("pitch behind " + row[0], x.of(3, 0), row[1]);
            Due.due("tuned", x.ofKeeper(0, 3), row[0] < 100 ? 1 : 0);
        }
    }

    private static void goesOnePlaceToTune() {
        PianoCovers x = damaged(20, 3);
        x.keeper(5);
        x.pass(1);
        Due.due("one place", x.ofKeeper(0, 0), 4);
        Due.due("went", x.ofKeeper(0, 4), 1);
        Due.due("not tuned yet", x.of(3, 0), 20);
        x.pass(1);
        Due.due("and another", x.ofKeeper(0, 0), 3);
        Due.due("not tuned yet either", x.of(3, 0), 20);
        x.pass(1);
        Due.due("then tuned", x.of(3, 0), 30);
    }

    private static void nothingIsDone() {
        PianoCovers x = new PianoCovers();
        x.piano(3, 1);
        x.keeper(5);
        x.pass(3);
        for (int what = 0; what <= 4; what++) {
            Due.due("ofKeeper(0, " + what + ")", x.ofKeeper(0, what), what == 0 ? 5 : 0);
        }
        Due.due("the piano is as it was", x.of(3, 0) * 10 + x.of(3, 2), 1001);
    }

    // ---- step 2

    private static void rain() {
        hour("With rain in this hour, each open piano has WET more damp, at most 100",
            BoundariesOfHours::dampAtMost100);
        hour("and FALL less pitch, at least 0", BoundariesOfHours::pitchAtLeast0);
        hour("Without rain, each open piano has DRY less damp, at least 0", BoundariesOfHours::dampAtLeast0);
        hour("Covered ones stay as they are", BoundariesOfHours::coveredOnesStay);
    }

    private static void dampAtMost100() {
        PianoCovers x = new PianoCovers();
        x.piano(0, 0);
        x.piano(11, 1);
        x.rain(Help.ALL_HOURS);
        x.set(PianoCovers.WET, 33);
        x.pass(3);
        Due.due("three times 33", x.of(0, 1), 99);
        x.set(PianoCovers.WET, 1);
        x.pass(1);
        Due.due("and 1 are 100", x.of(0, 1), 100);
        x.pass(1);
        Due.due("and 1 are 100 still", x.of(0, 1), 100);
        Due.due("each open one, with a cover or without", x.of(11, 1), 100);
        PianoCovers y = new PianoCovers();
        y.piano(0, 0);
        y.rain(Help.ALL_HOURS);
        y.set(PianoCovers.WET, 40);
        y.pass(3);
        Due.due("120 are 100", y.of(0, 1), 100);
    }

    private static void pitchAtLeast0() {
        PianoCovers x = new PianoCovers();
        x.piano(0, 0);
        x.rain(Help.ALL_HOURS);
        x.set(PianoCovers.FALL, 19);
        x.pass(5);
        Due.due("100 less 95", x.of(0, 0), 5);
        x.pass(1);
        Due.due("not below 0", x.of(0, 0), 0);
        PianoCovers y = new PianoCovers();
        y.piano(11, 0);
        y.rain(Help.ALL_HOURS);
        y.set(PianoCovers.FALL, 20);
        y.pass(5);
        Due.due("just 0", y.of(11, 0), 0);
        y.pass(1);
        Due.due("0 still", y.of(11, 0), 0);
    }

    private static void dampAtLeast0() {
        int[][] rows = {{5, 1, 0}, {4, 0, 0}, {3, 0, 0}, {9, 5, 1}};
        for (int[] row : rows) {
            PianoCovers x = new PianoCovers();
            x.piano(0, 0);
            x.piano(11, 1);
            x.rain(Help.hour(0));
            x.set(PianoCovers.WET, row[0]);
            x.pass(1);
            Due.due("damp of the rain", x.of(0, 1), row[0]);
            x.pass(1);
            Due.due(row[0] + " less 4", x.of(0, 1), row[1]);
            Due.due("each open one: " + row[0] + " less 4", x.of(11, 1), row[1]);
            x.pass(1);
            Due.due(row[0] + " less 8", x.of(0, 1), row[2]);
            Due.due("each open one: " + row[0] + " less 8", x.of(11, 1), row[2]);
        }
    }

    private static void coveredOnesStay() {
        PianoCovers x = new PianoCovers();
        x.piano(3, 1);
        x.set(PianoCovers.DRY, 1);
        x.rain(Help.hour(0, 10));
        x.pass(8);
        x.keeper(3);
        x.pass(1);
        Due.due("covered in hour 8, ahead of the rain in 10", x.of(3, 2), 2);
        Due.due("damp of seven dry hours, and not drier", x.of(3, 1), 13);
        x.pass(2);
        Due.due("neither drier in 9 nor more damp in 10", x.of(3, 1), 13);
        Due.due("pitch of hour 0", x.of(3, 0), 97);
        Due.due("not rained on again", x.of(3, 4), 1);
        Due.due("no coins", x.of(3, 3), 0);
        x.pass(1);
        Due.due("opened in 11: drier", x.of(3, 1), 12);
        Due.due("and played", x.of(3, 3), 9);
    }

    private static void playing() {
        hour("if the hour is 8 to 21", BoundariesOfHours::hours8To21);
        hour("and the damp then is below 50", BoundariesOfHours::dampBelow50);
        hour("it brings PLAY * its pitch / 100 coins", BoundariesOfHours::bringsByThePitchAheadOfIt);
        hour("and then its pitch is 1 less, at least 0", BoundariesOfHours::oneLessAtLeast0);
        hour("Without rain, each open piano has DRY less damp, at least 0; and if the hour is 8 to 21, "
            + "and the damp then is below 50, it is played", BoundariesOfHours::notPlayedInRain);
    }

    private static void hours8To21() {
        for (int hour : new int[] {0, 7, 8, 21, 22, 23, 24 + 7, 24 + 8, 24 + 21, 24 + 22}) {
            PianoCovers x = Made.at(hour);
            x.piano(4, 0);
            boolean played = hour % 24 >= 8 && hour % 24 <= 21;
            Due.due("coins of hour " + hour, x.pass(1), played ? 10 : 0);
            Due.due("pitch behind hour " + hour, x.of(4, 0), played ? 99 : 100);
        }
    }

    private static void dampBelow50() {
        int[][] rows = {
            // damp of the rain in hours 6 and 7 together, DRY, coins of hour 8
            {50, 1, 10}, {52, 2, 0}, {52, 3, 10}, {54, 4, 0}, {54, 5, 10}, {70, 20, 0}, {68, 20, 10}};
        for (int[] row : rows) {
            PianoCovers x = new PianoCovers();
            x.piano(4, 0);
            x.set(PianoCovers.FALL, 0);
            x.set(PianoCovers.WET, row[0] / 2);
            x.set(PianoCovers.DRY, row[1]);
            x.rain(Help.hour(6, 7));
            x.pass(8);
            Due.due("damp", x.of(4, 1), row[0]);
            Due.due("coins of damp " + row[0] + " less " + row[1], x.pass(1), row[2]);
            Due.due("pitch", x.of(4, 0), row[2] > 0 ? 99 : 100);
        }
    }

    private static void bringsByThePitchAheadOfIt() {
        PianoCovers x = Made.at(8);
        x.piano(4, 0);
        x.set(PianoCovers.PLAY, 50);
        Due.due("50 at 100", x.pass(1), 50);
        Due.due("50 at 99", x.pass(1), 49);
        x.set(PianoCovers.PLAY, 1);
        Due.due("1 at 98", x.pass(1), 0);
        Due.due("its coins", x.of(4, 3), 99);
        Due.due("coins", x.count(5), 99);
    }

    private static void oneLessAtLeast0() {
        PianoCovers x = damaged(2, 4);
        x.pass(8 - x.count(0));
        x.set(PianoCovers.PLAY, 50);
        Due.due("50 * 2 / 100", x.pass(1), 1);
        Due.due("2 less 1", x.of(4, 0), 1);
        Due.due("50 * 1 / 100", x.pass(1), 0);
        Due.due("1 less 1", x.of(4, 0), 0);
        Due.due("50 * 0 / 100", x.pass(1), 0);
        Due.due("not below 0", x.of(4, 0), 0);
    }

    private static void notPlayedInRain() {
        PianoCovers x = new PianoCovers();
        x.piano(4, 0);
        x.set(PianoCovers.FALL, 0);
        x.set(PianoCovers.WET, 1);
        x.rain(Help.hour(9));
        x.pass(8);
        Due.due("hour 8", x.pass(1), 10);
        Due.due("hour 9, with rain", x.pass(1), 0);
        Due.due("pitch behind it", x.of(4, 0), 99);
        Due.due("hour 10", x.pass(1), 9);
    }

    // ---- step 3

    private static void thieves() {
        hour("In the hours 22, 23 and 0 to 5", BoundariesOfHours::hoursOfThieves);
        hour("a cover that lies at an open piano is stolen", BoundariesOfHours::coversThatLie);
        hour("if no keeper is at its place", BoundariesOfHours::noKeeperAtItsPlace);
        hour("7 * the hours so far and 3 * its place together, left over by THIEF, is 0",
            BoundariesOfHours::ruleOfThieves);
    }

    private static void hoursOfThieves() {
        for (int hour : new int[] {0, 4, 5, 6, 7, 12, 20, 21, 22, 23, 24, 29, 30, 45, 46}) {
            PianoCovers x = Made.at(hour);
            x.set(PianoCovers.THIEF, 1);
            x.piano(0, 1);
            x.piano(11, 1);
            x.pass(1);
            boolean night = hour % 24 >= 22 || hour % 24 <= 5;
            Due.due("covers stolen in hour " + hour, x.count(6), night ? 2 : 0);
            Due.due("covers that lie behind hour " + hour, x.count(3), night ? 0 : 1 | 1 << 11);
        }
    }

    private static void coversThatLie() {
        PianoCovers x = new PianoCovers();
        x.set(PianoCovers.THIEF, 1);
        x.rain(Help.hour(0, 1));
        x.piano(4, 1);
        x.piano(5, 0);
        x.keeper(4);
        x.piano(9, 1);
        x.pass(1);
        Due.due("the one that lies goes", x.of(9, 2), 0);
        Due.due("one", x.count(6), 1);
        x.piano(11, 1);
        x.pass(1);
        Due.due("the keeper left 4", x.ofKeeper(0, 0), 5);
        Due.due("the cover on its piano stays", x.of(4, 2), 2);
        Due.due("that at 11 went, and no other", x.count(6), 2);
        Due.due("the pianos stay", x.count(1), 1 << 4 | 1 << 5 | 1 << 9 | 1 << 11);
    }

    private static void noKeeperAtItsPlace() {
        PianoCovers x = new PianoCovers();
        x.set(PianoCovers.THIEF, 1);
        x.piano(4, 1);
        x.piano(5, 1);
        x.piano(6, 1);
        x.keeper(0);
        x.keeper(5);
        x.pass(1);
        Due.due("one beside its place is none", x.count(3), 1 << 5);
        PianoCovers y = new PianoCovers();
        y.set(PianoCovers.THIEF, 1);
        y.set(PianoCovers.WARN, 12);
        y.rain(Help.hour(12));
        y.piano(4, 1);
        y.keeper(5);
        y.pass(1);
        Due.due("one that came in this hour is there", y.of(4, 2), 1);
        noKeeperAtItsPlaceAnyMore(60, 0);
        noKeeperAtItsPlaceAnyMore(40, 1);
    }

    private static void noKeeperAtItsPlaceAnyMore(int tune, int left) {
        PianoCovers x = damaged(40, 8);
        x.set(PianoCovers.THIEF, 1);
        x.set(PianoCovers.TUNE, tune);
        x.piano(4, 1);
        x.keeper(4);
        x.pass(1);
        Due.due("one that left in this hour is not there, TUNE " + tune, x.of(4, 2), left);
    }

    private static void ruleOfThieves() {
        int[][] rows = {
            // hours so far, THIEF, a place where it is 0 and one where it is not (-1: there is none)
            {0, 20, 0, 1}, {1, 20, 11, 10}, {22, 20, 2, 3}, {24, 20, 4, 0}, {0, 1, 11, -1}, {0, 2, 4, 5}, {1, 2, 5, 4},
            {2, 5, 2, 3}, {24, 5, 4, 0}, {24, 7, 7, 8}, {46, 13, 1, 0}, {3, 19, -1, 0}};
        for (int[] row : rows) {
            PianoCovers x = Made.at(row[0]);
            x.set(PianoCovers.THIEF, row[1]);
            for (int place = 0; place < 12; place++) {
                x.piano(place, 1);
            }
            x.pass(1);
            int left = 0;
            for (int place = 0; place < 12; place++) {
                left |= (7 * row[0] + 3 * place) % row[1] == 0 ? 0 : 1 << place;
            }
            String name = "THIEF " + row[1] + ", hours " + row[0];
            Due.due(name + ", covers that lie", x.count(3), left);
            Due.due(name + ", covers stolen", x.count(6), 12 - Integer.bitCount(left));
            if (row[2] >= 0) {
                Due.due(name + ", at " + row[2], x.of(row[2], 2), 0);
            }
            if (row[3] >= 0) {
                Due.due(name + ", at " + row[3], x.of(row[3], 2), 1);
            }
        }
    }

    private static void theHourIsCounted() {
        PianoCovers x = new PianoCovers();
        Due.due("at first", x.count(0), 0);
        x.set(PianoCovers.THIEF, 20);
        x.piano(0, 1);
        x.pass(1);
        Due.due("then", x.count(0), 1);
        Due.due("the thieves came ahead of that", x.count(6), 1);
        x.pass(99);
        Due.due("one hundred", x.count(0), 100);
    }
}
