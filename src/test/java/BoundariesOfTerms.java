/** The sentences of the terms "CONVENTIONS", "Settings" and "Street" that name a boundary. */
final class BoundariesOfTerms {
    private BoundariesOfTerms() { }

    static void run() {
        conventions();
        settings();
        street();
    }

    private static void conventions() {
        Sentence.holds("Terms", "NO_SUCH (-1), BAD_VALUE (-2), BAD_TEXT (-3), TOO_MANY (-4) and NOT_POSSIBLE (-5)",
            BoundariesOfTerms::errorCodes);
        Sentence.holds("Texts", "NO_SUCH = -1, BAD_VALUE = -2, BAD_TEXT = -3, TOO_MANY = -4, "
            + "NOT_POSSIBLE = -5, NONE = -6",
            BoundariesOfTerms::errorCodes);
        Sentence.holds("Texts", "WARN = 0, WET = 1, DRY = 2, FALL = 3, PLAY = 4, TUNE = 5, THIEF = 6",
            BoundariesOfTerms::numbersOfSettings);
        Sentence.holds("Terms", "it names its errors in the order in which they are checked, "
            + "and the first one that applies is returned", BoundariesOfTerms::theFirstErrorThatApplies);
        Sentence.holds("Terms", "A call that returns an error changes nothing",
            BoundariesOfTerms::anErrorChangesNothing);
        Sentence.holds("Terms", "NONE (-6) is not an error; it is returned only if no error applies",
            BoundariesOfTerms::noneIsReturnedOnlyIfNoErrorApplies);
        Sentence.holds("Terms", "Everything is numbered from 0", BoundariesOfTerms::numberedFromZero);
        Sentence.holds("Terms", "Sets of places are bit masks", BoundariesOfTerms::setsOfPlaces);
        Sentence.holds("Terms", "Divisions are rounded down", BoundariesOfTerms::divisionsAreRoundedDown);
    }

    private static void errorCodes() {
        PianoCovers x = new PianoCovers();
        Due.due("NO_SUCH", x.take(0), -1);
        Due.due("BAD_VALUE", x.rain(-1), -2);
        Due.due("BAD_TEXT", x.carryOut(), -3);
        Due.due("TOO_MANY", Made.withFullPad().put('x'), -4);
        Due.due("NOT_POSSIBLE", x.undo(), -5);
        Due.due("NONE", x.worst(), -6);
        int[] constants = {PianoCovers.NO_SUCH, PianoCovers.BAD_VALUE, PianoCovers.BAD_TEXT, PianoCovers.TOO_MANY,
            PianoCovers.NOT_POSSIBLE, PianoCovers.NONE};
        for (int i = 0; i < constants.length; i++) {
            Due.due("constant " + i, constants[i], -1 - i);
        }
    }

    private static void numbersOfSettings() {
        int[] constants = {PianoCovers.WARN, PianoCovers.WET, PianoCovers.DRY, PianoCovers.FALL, PianoCovers.PLAY,
            PianoCovers.TUNE, PianoCovers.THIEF};
        for (int setting = 0; setting < constants.length; setting++) {
            Due.due("setting " + setting, constants[setting], setting);
        }
    }

    private static void theFirstErrorThatApplies() {
        Made.refused("piano(12, 2): no place, no cover", x -> x.piano(12, 2), PianoCovers.NO_SUCH);
        Made.refused("piano(2, 2): no cover, one there", x -> x.piano(2, 2), PianoCovers.BAD_VALUE);
        Made.refused("keeper(12) with 4", Made::withFourKeepers, x -> x.keeper(12), PianoCovers.NO_SUCH);
        Made.refused("pass(100) at 9999", Made::with9999Hours, x -> x.pass(100), PianoCovers.BAD_VALUE);
        Made.refused("of(3, 6): no piano, no what", x -> x.of(3, 6), PianoCovers.NO_SUCH);
        Made.refused("ofKeeper(2, 5): no keeper, no what", x -> x.ofKeeper(2, 5), PianoCovers.NO_SUCH);
        Made.refused("put of a sign 32 above 80", Made::withFullPad, x -> x.put(32), PianoCovers.BAD_VALUE);
        Made.refused("restore(2) where nothing was saved", PianoCovers::new, x -> x.restore(2), PianoCovers.BAD_VALUE);
    }

    /** All of them one behind the other; each alone stands with its own promise. */
    private static void anErrorChangesNothing() {
        PianoCovers x = Made.rich();
        x.set(-1, 0);
        x.set(0, 13);
        x.rain(-1);
        x.piano(-1, 0);
        x.piano(0, 2);
        x.piano(2, 0);
        x.take(3);
        x.keeper(12);
        x.cover(3);
        x.cover(2);
        x.pass(0);
        x.pass(100);
        x.of(3, 0);
        x.of(2, 6);
        x.ofKeeper(2, 0);
        x.ofKeeper(0, 5);
        x.count(19);
        x.why(3);
        x.coveredIn(3);
        x.willBeWet(100);
        x.bestPlace(49, 0);
        x.bestPlace(48, 2);
        x.put(0);
        x.put(32);
        x.save(2);
        x.restore(2);
        Due.same("behind 26 errors", Made.life(x), Made.life(Made.rich()));
    }

    private static void noneIsReturnedOnlyIfNoErrorApplies() {
        PianoCovers x = new PianoCovers();
        Due.due("coveredIn(0) without a piano", x.coveredIn(0), PianoCovers.NO_SUCH);
        x.piano(0, 0);
        Due.due("coveredIn(0) then", x.coveredIn(0), PianoCovers.NONE);
        Due.due("coveredIn(12)", x.coveredIn(12), PianoCovers.NO_SUCH);
        Due.due("it is -6", PianoCovers.NONE, -6);
    }

    private static void numberedFromZero() {
        PianoCovers x = new PianoCovers();
        Due.due("place 0", x.piano(0, 0), 1);
        Due.due("place -1", x.piano(-1, 0), PianoCovers.NO_SUCH);
        Due.due("the first keeper", x.keeper(3), 0);
        Due.due("keeper 0", x.ofKeeper(0, 0), 3);
        Due.due("keeper -1", x.ofKeeper(-1, 0), PianoCovers.NO_SUCH);
        Due.due("setting 0", x.set(0, 1), 2);
        Due.due("setting -1", x.set(-1, 1), PianoCovers.BAD_VALUE);
        Due.due("slot 0", x.save(0), 1);
        Due.due("slot -1", x.save(-1), PianoCovers.BAD_VALUE);
        x.put('x');
        Due.due("the first character is at 0", x.fault(), 0);
    }

    private static void setsOfPlaces() {
        PianoCovers x = new PianoCovers();
        x.piano(0, 1);
        Due.due("place 0 alone", x.count(1), 1);
        x.piano(11, 1);
        Due.due("and 11", x.count(1), 1 + 2048);
        Due.due("covers lie at both", x.count(3), 1 + 2048);
        x.rain(1);
        Due.due("both will be wet", x.willBeWet(1), 1 + 2048);
        x.keeper(11);
        x.pass(1);
        Due.due("11 is covered", x.count(2), 2048);
        x = Made.withTwelvePianos();
        Due.due("all twelve", x.count(1), 4095);
    }

    private static void divisionsAreRoundedDown() {
        PianoCovers x = Made.at(8);
        x.piano(0, 0);
        x.set(PianoCovers.PLAY, 1);
        Due.due("1 * 100 / 100", x.pass(1), 1);
        Due.due("1 * 99 / 100", x.pass(1), 0);
        x.set(PianoCovers.PLAY, 50);
        Due.due("50 * 98 / 100", x.pass(1), 49);
        Due.due("50 * 97 / 100", x.pass(1), 48);
    }

    private static void settings() {
        Sentence.holds("Settings", "WARN (0 to 12; 2)", () -> range(PianoCovers.WARN, 0, 12, 2));
        Sentence.holds("Settings", "WET (1 to 50; 20)", () -> range(PianoCovers.WET, 1, 50, 20));
        Sentence.holds("Settings", "DRY (1 to 20; 4)", () -> range(PianoCovers.DRY, 1, 20, 4));
        Sentence.holds("Settings", "FALL (0 to 20; 3)", () -> range(PianoCovers.FALL, 0, 20, 3));
        Sentence.holds("Settings", "PLAY (0 to 50; 10)", () -> range(PianoCovers.PLAY, 0, 50, 10));
        Sentence.holds("Settings", "TUNE (0 to 100; 60)", () -> range(PianoCovers.TUNE, 0, 100, 60));
        Sentence.holds("Settings", "THIEF (1 to 20; 7)", () -> range(PianoCovers.THIEF, 1, 20, 7));
        Sentence.holds("Settings", "hours ahead in which rain counts", BoundariesOfTerms::warnAtBothEnds);
        Sentence.holds("Settings", "damp of an hour of rain", BoundariesOfTerms::wetAtBothEnds);
        Sentence.holds("Settings", "damp that goes in an hour without", BoundariesOfTerms::dryAtBothEnds);
        Sentence.holds("Settings", "pitch that an hour of rain takes", BoundariesOfTerms::fallAtBothEnds);
        Sentence.holds("Settings", "coins of an hour of playing", BoundariesOfTerms::playAtBothEnds);
        Sentence.holds("Settings", "pitch below which a piano is tuned", BoundariesOfTerms::tuneAtBothEnds);
    }

    private static void range(int setting, int least, int most, int first) {
        PianoCovers x = new PianoCovers();
        Due.due("first value", x.count(10 + setting), first);
        Due.due("the least", x.set(setting, least), first);
        Due.due("it stands", x.count(10 + setting), least);
        Due.due("the most", x.set(setting, most), least);
        Due.due("it stands, too", x.count(10 + setting), most);
        Made.refused("one less", y -> y.set(setting, least - 1), PianoCovers.BAD_VALUE);
        Made.refused("one more", y -> y.set(setting, most + 1), PianoCovers.BAD_VALUE);
        Made.refused("the least int", y -> y.set(setting, Integer.MIN_VALUE), PianoCovers.BAD_VALUE);
        Made.refused("the largest int", y -> y.set(setting, Integer.MAX_VALUE), PianoCovers.BAD_VALUE);
    }

    private static void warnAtBothEnds() {
        PianoCovers x = new PianoCovers();
        x.set(PianoCovers.WARN, 0);
        x.rain(Help.hour(1));
        Due.due("0: not the next hour", x.count(8), 0);
        x.rain(Help.hour(0));
        Due.due("0: the hour of now", x.count(8), 1);
        x.set(PianoCovers.WARN, 12);
        x.rain(Help.hour(12));
        Due.due("12: hour 12", x.count(8), 1);
        x.rain(Help.hour(13));
        Due.due("12: not hour 13", x.count(8), 0);
    }

    private static void wetAtBothEnds() {
        PianoCovers x = new PianoCovers();
        x.rain(Help.ALL_HOURS);
        x.piano(4, 0);
        x.set(PianoCovers.WET, 1);
        x.pass(1);
        Due.due("1", x.of(4, 1), 1);
        x.set(PianoCovers.WET, 50);
        x.pass(1);
        Due.due("and 50", x.of(4, 1), 51);
    }

    private static void dryAtBothEnds() {
        PianoCovers x = new PianoCovers();
        x.rain(Help.hour(0));
        x.set(PianoCovers.WET, 50);
        x.piano(4, 0);
        x.pass(1);
        x.set(PianoCovers.DRY, 1);
        x.pass(1);
        Due.due("1", x.of(4, 1), 49);
        x.set(PianoCovers.DRY, 20);
        x.pass(1);
        Due.due("and 20", x.of(4, 1), 29);
    }

    private static void fallAtBothEnds() {
        PianoCovers x = new PianoCovers();
        x.rain(Help.ALL_HOURS);
        x.piano(4, 0);
        x.set(PianoCovers.FALL, 0);
        x.pass(1);
        Due.due("0", x.of(4, 0), 100);
        x.set(PianoCovers.FALL, 20);
        x.pass(1);
        Due.due("and 20", x.of(4, 0), 80);
    }

    private static void playAtBothEnds() {
        PianoCovers x = Made.at(8);
        x.piano(4, 0);
        x.set(PianoCovers.PLAY, 50);
        Due.due("50", x.pass(1), 50);
        x.set(PianoCovers.PLAY, 0);
        Due.due("0", x.pass(1), 0);
        Due.due("it is played all the same", x.of(4, 0), 98);
    }

    private static void tuneAtBothEnds() {
        PianoCovers x = new PianoCovers();
        x.set(PianoCovers.FALL, 20);
        x.rain(Help.hour(0, 1, 2, 3, 4));
        x.piano(4, 0);
        x.pass(5);
        x.keeper(4);
        x.set(PianoCovers.TUNE, 0);
        x.pass(1);
        Due.due("0: pitch 0 is not below", x.ofKeeper(0, 3), 0);
        x.set(PianoCovers.TUNE, 1);
        x.pass(1);
        Due.due("1: it is", x.of(4, 0), 10);
        x.set(PianoCovers.TUNE, 100);
        x.take(4);
        x.piano(4, 0);
        x.pass(1);
        Due.due("100: pitch 100 is not below", x.ofKeeper(0, 3), 1);
    }

    private static void street() {
        Sentence.holds("Street", "There are 12 places in a row, 0 to 11", BoundariesOfTerms::twelvePlaces);
        Sentence.holds("Street", "at each there is at most one piano", BoundariesOfTerms::atMostOnePiano);
        Sentence.holds("Street", "with a pitch (0 to 100; 100 at first)", BoundariesOfTerms::pitch);
        Sentence.holds("Street", "and damp (0 to 100; 0 at first)", BoundariesOfTerms::damp);
        Sentence.holds("Street", "none (0), lying there (1), or on it (2)", BoundariesOfTerms::coversOfAPiano);
        Sentence.holds("Street", "A piano with its cover on it is covered, otherwise open",
            BoundariesOfTerms::coveredOtherwiseOpen);
        Sentence.holds("Street", "There are up to 4 keepers", BoundariesOfTerms::upToFourKeepers);
        Sentence.holds("Street", "numbered in the order in which they came, each at a place",
            BoundariesOfTerms::keepersInTheirOrder);
        Sentence.holds("Street", "The hours of the day are 0 to 23", BoundariesOfTerms::hoursOfTheDay);
        Sentence.holds("Street", "it rains each day in the hours of a set", BoundariesOfTerms::itRainsEachDay);
        Sentence.holds("Street", "The hour of now is the hours so far left over by 24", BoundariesOfTerms::hourOfNow);
        Sentence.holds("Street", "Rain is ahead if it rains in the hour of now", BoundariesOfTerms::rainInTheHourOfNow);
        Sentence.holds("Street", "or in one of the next WARN hours", BoundariesOfTerms::rainInTheNextHours);
    }

    private static void twelvePlaces() {
        PianoCovers x = new PianoCovers();
        Due.due("piano(0, 0)", x.piano(0, 0), 1);
        Due.due("piano(11, 0)", x.piano(11, 0), 2);
        Due.due("keeper(0)", x.keeper(0), 0);
        Due.due("keeper(11)", x.keeper(11), 1);
        Made.refused("piano(-1, 0)", y -> y.piano(-1, 0), PianoCovers.NO_SUCH);
        Made.refused("piano(12, 0)", y -> y.piano(12, 0), PianoCovers.NO_SUCH);
        Made.refused("keeper(-1)", y -> y.keeper(-1), PianoCovers.NO_SUCH);
        Made.refused("keeper(12)", y -> y.keeper(12), PianoCovers.NO_SUCH);
    }

    private static void atMostOnePiano() {
        PianoCovers x = new PianoCovers();
        Due.due("one", x.piano(6, 0), 1);
        Due.due("a second one", x.piano(6, 0), PianoCovers.NOT_POSSIBLE);
        x.take(6);
        Due.due("one again", x.piano(6, 1), 1);
        x = Made.withTwelvePianos();
        Due.due("twelve at most", x.piano(11, 0), PianoCovers.NOT_POSSIBLE);
        Due.due("eleven are left", x.take(0), 11);
        Due.due("twelve again", x.piano(0, 0), 12);
    }

    private static void pitch() {
        PianoCovers x = new PianoCovers();
        x.piano(6, 0);
        Due.due("at first", x.of(6, 0), 100);
        x.set(PianoCovers.FALL, 20);
        x.rain(Help.ALL_HOURS);
        x.pass(5);
        Due.due("0", x.of(6, 0), 0);
        x.pass(1);
        Due.due("not below", x.of(6, 0), 0);
        x.rain(0);
        x.set(PianoCovers.TUNE, 100);
        x.set(PianoCovers.DRY, 1);
        x.keeper(6);
        x.pass(12);
        Due.due("100", x.of(6, 0), 100);
        x.pass(1);
        Due.due("not above", x.of(6, 0), 100);
        PianoCovers y = new PianoCovers();
        y.piano(6, 0);
        y.rain(Help.ALL_HOURS);
        y.pass(1);
        Due.due("97", y.of(6, 0), 97);
        y.take(6);
        y.piano(6, 0);
        Due.due("at first, where another one was", y.of(6, 0), 100);
    }

    private static void damp() {
        PianoCovers x = new PianoCovers();
        x.piano(6, 0);
        Due.due("at first", x.of(6, 1), 0);
        x.pass(1);
        Due.due("not below", x.of(6, 1), 0);
        x.set(PianoCovers.WET, 50);
        x.rain(Help.ALL_HOURS);
        x.pass(2);
        Due.due("100", x.of(6, 1), 100);
        x.pass(1);
        Due.due("not above", x.of(6, 1), 100);
        x.take(6);
        x.piano(6, 0);
        Due.due("at first, where another one was", x.of(6, 1), 0);
    }

    private static void coversOfAPiano() {
        PianoCovers x = new PianoCovers();
        x.piano(6, 0);
        Due.due("none", x.of(6, 2), 0);
        x.cover(6);
        Due.due("lying there", x.of(6, 2), 1);
        x.rain(1);
        x.keeper(6);
        x.pass(1);
        Due.due("on it", x.of(6, 2), 2);
    }

    private static void coveredOtherwiseOpen() {
        PianoCovers x = new PianoCovers();
        x.piano(1, 0);
        x.piano(5, 1);
        x.piano(9, 1);
        x.keeper(9);
        x.rain(1);
        Due.due("open ones with a cover that lies there", x.count(3), 1 << 5 | 1 << 9);
        x.pass(1);
        Due.due("covered", x.count(2), 1 << 9);
        Due.due("open without a cover: rained on", x.of(1, 4), 1);
        Due.due("open with one that lies there: rained on", x.of(5, 4), 1);
        Due.due("covered: not", x.of(9, 4), 0);
    }

    private static void upToFourKeepers() {
        PianoCovers x = new PianoCovers();
        for (int keeper = 0; keeper < 4; keeper++) {
            Due.due("keeper " + keeper, x.keeper(0), keeper);
        }
        Due.due("four", x.count(4), 4);
        Made.refused("a fifth", Made::withFourKeepers, y -> y.keeper(0), PianoCovers.TOO_MANY);
    }

    private static void keepersInTheirOrder() {
        PianoCovers x = new PianoCovers();
        int[] places = {7, 0, 11, 7};
        for (int place : places) {
            x.keeper(place);
        }
        for (int keeper = 0; keeper < 4; keeper++) {
            Due.due("place of " + keeper, x.ofKeeper(keeper, 0), places[keeper]);
        }
    }

    private static void hoursOfTheDay() {
        PianoCovers x = new PianoCovers();
        Due.due("hour 0", x.rain(1), 0);
        Due.due("hour 23", x.rain(1 << 23), 1);
        Due.due("both ends", x.rain(1 << 23 | 1), 1 << 23);
        Made.refused("hour 24", y -> y.rain(1 << 24), PianoCovers.BAD_VALUE);
    }

    private static void itRainsEachDay() {
        PianoCovers x = new PianoCovers();
        x.rain(Help.hour(5));
        x.pass(5);
        for (int day = 0; day < 4; day++) {
            Due.due("day " + day + ", hour 5", x.count(9), 1);
            x.pass(1);
            Due.due("day " + day + ", hour 6", x.count(9), 0);
            x.pass(23);
        }
    }

    private static void hourOfNow() {
        PianoCovers x = new PianoCovers();
        x.rain(Help.hour(23));
        Due.due("hour 0", x.rainIn(), 23);
        x.pass(23);
        Due.due("hour 23", x.rainIn(), 0);
        x.pass(1);
        Due.due("24 hours are hour 0", x.rainIn(), 23);
        x = Made.with9999Hours();
        x.rain(Help.hour(15));
        Due.due("9999 hours are hour 15", x.count(9), 1);
        x.rain(Help.ALL_HOURS & ~Help.hour(15));
        Due.due("and no other", x.count(9), 0);
    }

    private static void rainInTheHourOfNow() {
        for (int hour : new int[] {0, 7, 23}) {
            PianoCovers x = Made.at(hour);
            x.set(PianoCovers.WARN, 0);
            x.rain(Help.hour(hour));
            Due.due("in hour " + hour, x.count(8), 1);
            x.rain(Help.ALL_HOURS & ~Help.hour(hour));
            Due.due("in each but " + hour, x.count(8), 0);
        }
    }

    /** From each hour of now, also across the end of the day: the last hour that counts, and the next. */
    private static void rainInTheNextHours() {
        for (int hour = 0; hour < 24; hour++) {
            PianoCovers x = Made.at(hour);
            for (int warn : new int[] {0, 1, 2, 11, 12}) {
                x.set(PianoCovers.WARN, warn);
                x.rain(Help.hour((hour + warn) % 24));
                Due.due("WARN " + warn + " in hour " + hour, x.count(8), 1);
                x.rain(Help.hour((hour + warn + 1) % 24));
                Due.due("WARN " + warn + " in hour " + hour + ", one more", x.count(8), 0);
                x.rain(Help.hour((hour + 23) % 24));
                Due.due("WARN " + warn + " in hour " + hour + ", the hour before", x.count(8), 0);
            }
        }
    }
}
