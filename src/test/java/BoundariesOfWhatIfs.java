/** The sentences of promises 13 to 17 that name a boundary. */
final class BoundariesOfWhatIfs {
    private BoundariesOfWhatIfs() { }

    static void run() {
        Sentence.holds("Texts", "what if; nothing changes", BoundariesOfWhatIfs::nothingChanges);
        Sentence.holds("Texts", "(the bound of hours does not matter)", BoundariesOfWhatIfs::beyondTheBoundOfHours);
        why();
        rainIn();
        coveredIn();
        willBeWet();
        bestPlace();
    }

    private static void nothingChanges() {
        BoundariesOfLooks.changesNothing("why", x -> x.why(2));
        BoundariesOfLooks.changesNothing("rainIn", PianoCovers::rainIn);
        BoundariesOfLooks.changesNothing("coveredIn", x -> x.coveredIn(2));
        BoundariesOfLooks.changesNothing("willBeWet", x -> x.willBeWet(99));
        BoundariesOfLooks.changesNothing("bestPlace", x -> x.bestPlace(48, 0));
        BoundariesOfLooks.changesNothing("bestPlace's coins", x -> x.bestPlace(48, 1));
        PianoCovers four = Made.withFourKeepers();
        four.bestPlace(48, 0);
        Due.same("behind bestPlace with 4 keepers", Made.life(four), Made.life(Made.withFourKeepers()));
    }

    /** An object with 9999 hours, which is hour 15, a piano at 3 with a cover that lies there, and a keeper at 1. */
    private static void beyondTheBoundOfHours() {
        PianoCovers x = Made.with9999Hours();
        Due.due("no hour can pass", x.pass(1), PianoCovers.NOT_POSSIBLE);
        x.rain(Help.hour(17));
        Due.due("rainIn()", x.rainIn(), 2);
        Due.due("coveredIn(3): two places and an hour", x.coveredIn(3), 3);
        Due.due("willBeWet(2)", x.willBeWet(2), 0);
        Due.due("willBeWet(3): it is covered by then", x.willBeWet(3), 0);
        x.set(PianoCovers.WARN, 1);
        Due.due("coveredIn(3): too late today, tomorrow in hour 16", x.coveredIn(3), 26);
        Due.due("willBeWet(3): it is not", x.willBeWet(3), 8);
        x.rain(0);
        int coins = 0;
        int pitch = x.of(3, 0);
        for (int hour = 15; hour <= 21; hour++) {
            coins += 10 * pitch-- / 100;
        }
        Due.due("bestPlace(48, 1) is more than the coins of this day", x.bestPlace(48, 1) > coins ? 1 : 0, 1);
        Due.due("bestPlace(7, 1)", x.bestPlace(7, 1), coins);
        Due.due("bestPlace(7, 0)", x.bestPlace(7, 0), 0);
        Due.due("hours so far", x.count(0), 9999);
    }

    private static void why() {
        Sentence.holds("Promise 13", "Returns 0: it is", BoundariesOfWhatIfs::whyItIs);
        Sentence.holds("Promise 13", "the first of these that is so: 1 it has no cover",
            BoundariesOfWhatIfs::whyNoCover);
        Sentence.holds("Promise 13", "2 no rain is ahead", BoundariesOfWhatIfs::whyNoRainAhead);
        Sentence.holds("Promise 13", "3 there is no keeper", BoundariesOfWhatIfs::whyNoKeeper);
        Sentence.holds("Promise 13", "4 no keeper is at its place", BoundariesOfWhatIfs::whyNoKeeperAtItsPlace);
        Sentence.holds("Promise 13", "5 else", BoundariesOfWhatIfs::whyElse);
        Sentence.holds("Promise 13", "NO_SUCH if there is none in the place", BoundariesOfWhatIfs::whyOfNone);
    }

    private static void whyItIs() {
        PianoCovers x = Made.rich();
        Due.due("covered, in rain", x.why(5), 0);
        x.rain(0);
        Due.due("covered, and no rain ahead", x.why(5), 0);
    }

    private static void whyNoCover() {
        PianoCovers x = new PianoCovers();
        x.piano(4, 0);
        Due.due("no cover, no rain, no keeper", x.why(4), 1);
        x.rain(1);
        x.keeper(4);
        Due.due("no cover alone", x.why(4), 1);
        x.cover(4);
        Due.due("one", x.why(4), 5);
    }

    private static void whyNoRainAhead() {
        PianoCovers x = new PianoCovers();
        x.piano(4, 1);
        Due.due("no rain ahead, and no keeper", x.why(4), 2);
        x.keeper(4);
        x.rain(Help.hour(3));
        Due.due("in three hours, WARN 2", x.why(4), 2);
        x.rain(Help.hour(2));
        Due.due("in two hours", x.why(4), 5);
    }

    private static void whyNoKeeper() {
        PianoCovers x = new PianoCovers();
        x.piano(4, 1);
        x.rain(1);
        Due.due("none", x.why(4), 3);
        x.keeper(11);
        Due.due("one, elsewhere", x.why(4), 4);
    }

    private static void whyNoKeeperAtItsPlace() {
        PianoCovers x = new PianoCovers();
        x.piano(4, 1);
        x.rain(1);
        x.keeper(3);
        x.keeper(5);
        x.keeper(0);
        Due.due("three, elsewhere", x.why(4), 4);
        x.keeper(4);
        Due.due("the fourth at its place", x.why(4), 5);
    }

    private static void whyElse() {
        PianoCovers x = new PianoCovers();
        x.piano(4, 1);
        x.rain(Help.ALL_HOURS);
        x.keeper(5);
        x.keeper(4);
        Due.due("a keeper is there", x.why(4), 5);
        x.pass(1);
        Due.due("the keepers are there, the one ahead came", x.why(4), 5);
        x.pass(1);
        Due.due("it is", x.why(4), 0);
    }

    private static void whyOfNone() {
        Made.refused("why(3)", x -> x.why(3), PianoCovers.NO_SUCH);
        Made.refused("why(-1)", x -> x.why(-1), PianoCovers.NO_SUCH);
        Made.refused("why(12)", x -> x.why(12), PianoCovers.NO_SUCH);
        Made.refused("why(12) of twelve", Made::withTwelvePianos, x -> x.why(12), PianoCovers.NO_SUCH);
        Made.refused("why(37): 5 is there", x -> x.why(37), PianoCovers.NO_SUCH);
        Made.refused("why(MIN)", x -> x.why(Integer.MIN_VALUE), PianoCovers.NO_SUCH);
        Made.refused("why(MAX)", x -> x.why(Integer.MAX_VALUE), PianoCovers.NO_SUCH);
    }

    private static void rainIn() {
        Sentence.holds("Promise 14", "Returns how many (0 if it rains in the hour of now)",
            BoundariesOfWhatIfs::rainInHowMany);
        Sentence.holds("Promise 14", "NONE if it never rains", BoundariesOfWhatIfs::itNeverRains);
    }

    private static void rainInHowMany() {
        for (int hour : new int[] {0, 1, 22, 23, 24, 47}) {
            PianoCovers x = Made.at(hour);
            for (int in = 0; in < 24; in++) {
                x.rain(Help.hour((hour + in) % 24));
                Due.due("in hour " + hour + ", rain " + in + " later", x.rainIn(), in);
                x.rain(Help.hour((hour + in) % 24, (hour + 23) % 24));
                Due.due("and in the hour before, which comes last", x.rainIn(), in);
            }
        }
        PianoCovers x = new PianoCovers();
        x.set(PianoCovers.WARN, 0);
        x.rain(Help.ALL_HOURS);
        Due.due("WARN does not matter", x.rainIn(), 0);
    }

    private static void itNeverRains() {
        PianoCovers x = new PianoCovers();
        Due.due("never", x.rainIn(), PianoCovers.NONE);
        x.rain(1 << 23);
        Due.due("in one hour a day", x.rainIn(), 23);
        x.rain(0);
        Due.due("no more", x.rainIn(), PianoCovers.NONE);
    }

    private static void coveredIn() {
        Sentence.holds("Promise 15", "if nothing else is done", BoundariesOfWhatIfs::coveredAsWasTold);
        Sentence.holds("Promise 15", "Returns how many hours pass until then", BoundariesOfWhatIfs::hoursUntilCovered);
        Sentence.holds("Promise 15", "(0 if it is)", BoundariesOfWhatIfs::coveredNow);
        Sentence.holds("Promise 15", "NO_SUCH if there is none in the place", BoundariesOfWhatIfs::coveredInOfNone);
        Sentence.holds("Promise 15", "NONE if it is not within 96", BoundariesOfWhatIfs::notWithin96);
    }

    /** What is told comes, hour for hour; a new cover, which is something else, changes it. */
    private static void coveredAsWasTold() {
        PianoCovers x = Made.rich();
        for (int told = x.coveredIn(2); told > 0; told--) {
            Due.due("not yet covered", x.of(2, 2), 1);
            x.pass(1);
            Due.due("an hour less", x.coveredIn(2), told - 1);
        }
        Due.due("covered", x.of(2, 2), 2);
        Due.due("9 has no cover", x.coveredIn(9), PianoCovers.NONE);
        x.cover(9);
        Due.due("then it has", x.coveredIn(9) > 0 ? 1 : 0, 1);
    }

    private static void hoursUntilCovered() {
        PianoCovers x = new PianoCovers();
        x.rain(Help.hour(5));
        x.piano(4, 1);
        x.keeper(4);
        Due.due("hours 0 to 2, and 3 covers", x.coveredIn(4), 4);
        x.pass(3);
        Due.due("one", x.coveredIn(4), 1);
        x.pass(1);
        Due.due("as was told", x.of(4, 2), 2);
        PianoCovers y = new PianoCovers();
        y.rain(Help.ALL_HOURS);
        y.piano(11, 1);
        y.keeper(0);
        Due.due("eleven places and an hour", y.coveredIn(11), 12);
    }

    private static void coveredNow() {
        PianoCovers x = Made.rich();
        Due.due("it is", x.coveredIn(5), 0);
        x.rain(0);
        Due.due("it is, though it will be opened", x.coveredIn(5), 0);
    }

    private static void coveredInOfNone() {
        Made.refused("coveredIn(3)", x -> x.coveredIn(3), PianoCovers.NO_SUCH);
        Made.refused("coveredIn(-1)", x -> x.coveredIn(-1), PianoCovers.NO_SUCH);
        Made.refused("coveredIn(12)", x -> x.coveredIn(12), PianoCovers.NO_SUCH);
        Made.refused("coveredIn(12) of twelve", Made::withTwelvePianos, x -> x.coveredIn(12), PianoCovers.NO_SUCH);
        Made.refused("coveredIn(37): 5 is there", x -> x.coveredIn(37), PianoCovers.NO_SUCH);
        Made.refused("coveredIn(MIN)", x -> x.coveredIn(Integer.MIN_VALUE), PianoCovers.NO_SUCH);
        Made.refused("coveredIn(MAX)", x -> x.coveredIn(Integer.MAX_VALUE), PianoCovers.NO_SUCH);
    }

    /** Rain in one hour a day, WARN 0 and TUNE 0: the keeper goes a place in that hour, and covers a day later. */
    private static void notWithin96() {
        int[][] rows = {
            // hour of rain, places off, answer
            {23, 3, 96}, {22, 3, 95}, {0, 3, 73}, {0, 4, -6}, {23, 4, -6}, {23, 2, 72}, {1, 4, -6}};
        for (int[] row : rows) {
            Due.due("rain in " + row[0] + ", " + row[1] + " off", oneHourADay(row[0], row[1]).coveredIn(5), row[2]);
        }
        PianoCovers x = oneHourADay(0, 4);
        Due.due("in 97 hours", x.coveredIn(5), PianoCovers.NONE);
        x.pass(1);
        Due.due("an hour later in 96", x.coveredIn(5), 96);
        x.pass(95);
        Due.due("not yet", x.of(5, 2), 1);
        Due.due("in one", x.coveredIn(5), 1);
        x.pass(1);
        Due.due("so it was in 97", x.of(5, 2), 2);
        PianoCovers none = Made.rich();
        Due.due("never, without a cover", none.coveredIn(9), PianoCovers.NONE);
        none.rain(0);
        Due.due("never, without rain", none.coveredIn(2), PianoCovers.NONE);
    }

    private static PianoCovers oneHourADay(int hourOfRain, int off) {
        PianoCovers x = new PianoCovers();
        x.set(PianoCovers.WARN, 0);
        x.set(PianoCovers.TUNE, 0);
        x.rain(Help.hour(hourOfRain));
        x.piano(5, 1);
        x.keeper(5 - off);
        return x;
    }

    private static void willBeWet() {
        Sentence.holds("Promise 16", "Returns which pianos will be rained on in the next hours",
            BoundariesOfWhatIfs::whichWillBeWet);
        Sentence.holds("Promise 16", "if nothing else is done", BoundariesOfWhatIfs::wetAsWasTold);
        Sentence.holds("Promise 16", "hours: 1 to 99", BoundariesOfWhatIfs::hoursOfWillBeWet);
        Sentence.holds("Promise 16", "BAD_VALUE if hours is out of range",
            BoundariesOfWhatIfs::hoursOfWillBeWetOutOfRange);
    }

    private static void whichWillBeWet() {
        PianoCovers x = new PianoCovers();
        x.rain(Help.hour(4));
        x.piano(0, 0);
        x.piano(6, 1);
        x.piano(11, 1);
        x.keeper(6);
        Due.due("the hour of rain is not among them", x.willBeWet(4), 0);
        Due.due("it is: 6 is covered by then", x.willBeWet(5), 1 | 1 << 11);
        x.pass(5);
        Due.due("those rained on before do not count", x.willBeWet(23), 0);
        Due.due("a day later, with the keeper at 6 again", x.willBeWet(24), 1 | 1 << 11);
        PianoCovers y = new PianoCovers();
        y.set(PianoCovers.WET, 50);
        y.set(PianoCovers.FALL, 20);
        y.rain(Help.ALL_HOURS);
        y.piano(3, 0);
        y.pass(6);
        Due.due("damp 100 and pitch 0 are rained on as well", y.willBeWet(1), 8);
        Due.due("no piano", new PianoCovers().willBeWet(99), 0);
    }

    private static void wetAsWasTold() {
        for (int hours : new int[] {1, 13, 24, 98, 99}) {
            PianoCovers x = Made.rich();
            int told = x.willBeWet(hours);
            int[] places = {2, 5, 9};
            int[] before = {x.of(2, 4), x.of(5, 4), x.of(9, 4)};
            x.pass(hours);
            for (int i = 0; i < places.length; i++) {
                boolean wet = x.of(places[i], 4) > before[i];
                Due.due(places[i] + " behind " + hours + " hours", told >> places[i] & 1, wet ? 1 : 0);
            }
        }
    }

    private static void hoursOfWillBeWet() {
        PianoCovers x = new PianoCovers();
        x.piano(5, 0);
        x.rain(1);
        Due.due("1", x.willBeWet(1), 1 << 5);
        PianoCovers y = coverStolenOnTheFourthDay();
        Due.due("98: it is covered in each hour of rain", y.willBeWet(98) & 1 << 5, 0);
        Due.due("99: the cover went, and it rains on it", y.willBeWet(99) & 1 << 5, 1 << 5);
        y.pass(98);
        Due.due("as was told for 98", y.of(5, 4), 0);
        y.pass(1);
        Due.due("as was told for 99", y.of(5, 4), 1);
    }

    /**
     * 117 hours so far, which is hour 21; rain in hour 23. The keeper covers 5 ahead of it, opens it behind it, and
     * goes off to tune 4. With THIEF 20 a cover at 5 goes at 15, 35, .. hours; the first of these by night is 195,
     * and the next rain falls at 215.
     */
    private static PianoCovers coverStolenOnTheFourthDay() {
        PianoCovers x = Made.at(117);
        x.set(PianoCovers.THIEF, 20);
        x.set(PianoCovers.TUNE, 50);
        x.set(PianoCovers.FALL, 20);
        x.rain(Help.hour(23));
        x.piano(5, 1);
        x.piano(4, 0);
        x.keeper(5);
        return x;
    }

    private static void hoursOfWillBeWetOutOfRange() {
        Made.refused("willBeWet(0)", x -> x.willBeWet(0), PianoCovers.BAD_VALUE);
        Made.refused("willBeWet(-1)", x -> x.willBeWet(-1), PianoCovers.BAD_VALUE);
        Made.refused("willBeWet(100)", x -> x.willBeWet(100), PianoCovers.BAD_VALUE);
        Made.refused("willBeWet(MIN)", x -> x.willBeWet(Integer.MIN_VALUE), PianoCovers.BAD_VALUE);
        Made.refused("willBeWet(MAX)", x -> x.willBeWet(Integer.MAX_VALUE), PianoCovers.BAD_VALUE);
    }

    private static void bestPlace() {
        Sentence.holds("Promise 17", "Finds the place at which one keeper more would let "
            + "the next hours bring the most coins",
            BoundariesOfWhatIfs::oneKeeperMore);
        Sentence.holds("Promise 17", "of several the lowest one", BoundariesOfWhatIfs::lowestOfTheBest);
        Sentence.holds("Promise 17", "(also if there are 4 keepers)", BoundariesOfWhatIfs::bestPlaceWithFour);
        Sentence.holds("Promise 17", "hours: 1 to 48", BoundariesOfWhatIfs::hoursOfBestPlace);
        Sentence.holds("Promise 17", "what: 0 the place, 1 the coins", BoundariesOfWhatIfs::placeOrCoins);
        Sentence.holds("Promise 17", "BAD_VALUE if an argument is out of range",
            BoundariesOfWhatIfs::argumentsOutOfRange);
    }

    /** At hour 8: pianos with pitch 0 at these places. */
    private static PianoCovers outOfTuneAt(int... places) {
        PianoCovers x = new PianoCovers();
        x.set(PianoCovers.FALL, 20);
        x.set(PianoCovers.WET, 1);
        x.rain(Help.hour(0, 1, 2, 3, 4));
        for (int place : places) {
            x.piano(place, 0);
        }
        x.pass(8);
        x.rain(0);
        return x;
    }

    private static void oneKeeperMore() {
        PianoCovers x = outOfTuneAt(7);
        Due.due("one hour: only at 7 it tunes", x.bestPlace(1, 0), 7);
        Due.due("one hour: 10 * 10 / 100", x.bestPlace(1, 1), 1);
        Due.due("nobody came", x.pass(1), 0);
        PianoCovers y = outOfTuneAt(0, 11);
        y.keeper(0);
        Due.due("one is at 0 already", y.bestPlace(1, 0), 11);
        Due.due("two bring", y.bestPlace(1, 1), 2);
    }

    private static void lowestOfTheBest() {
        PianoCovers x = new PianoCovers();
        Due.due("without a piano all alike", x.bestPlace(48, 0), 0);
        Due.due("no coins", x.bestPlace(48, 1), 0);
        Due.due("3 or 9 alike", outOfTuneAt(3, 9).bestPlace(1, 0), 3);
        Due.due("11 alone", outOfTuneAt(11).bestPlace(1, 0), 11);
        PianoCovers y = Made.at(8);
        for (int place = 0; place < 12; place++) {
            y.piano(place, 1);
        }
        y.rain(Help.hour(10));
        Due.due("at each place it covers one, so all alike: none but 0 to 11", y.bestPlace(1, 0), 0);
        Due.due("the other eleven bring", y.bestPlace(1, 1), 110);
        Due.due("all twelve bring without it", y.pass(1), 120);
    }

    private static void bestPlaceWithFour() {
        PianoCovers x = outOfTuneAt(0, 2, 4, 6, 8);
        x.keeper(0);
        x.keeper(2);
        x.keeper(4);
        Due.due("the fourth", x.bestPlace(1, 0), 6);
        Due.due("four bring", x.bestPlace(1, 1), 4);
        x.keeper(6);
        Due.due("the fifth", x.bestPlace(1, 0), 8);
        Due.due("five bring", x.bestPlace(1, 1), 5);
        Due.due("there is none", x.ofKeeper(4, 0), PianoCovers.NO_SUCH);
        Due.due("nor can one come", x.keeper(8), PianoCovers.TOO_MANY);
        Due.due("four keepers bring", x.pass(1), 4);
        theFifthKeepsThievesOff();
    }

    /** By night a fifth keeper at 0 guards the cover, which keeper 0 lays on ahead of hour 9: hour 8 brings nothing. */
    private static void theFifthKeepsThievesOff() {
        PianoCovers x = new PianoCovers();
        x.set(PianoCovers.THIEF, 1);
        x.set(PianoCovers.WARN, 3);
        x.piano(0, 1);
        x.keeper(2);
        x.keeper(11);
        x.keeper(11);
        x.keeper(11);
        x.rain(Help.hour(9));
        Due.due("the lowest place at which it guards nothing", x.bestPlace(9, 0), 1);
        Due.due("the cover goes, and hour 8 brings", x.bestPlace(9, 1), 10);
    }

    private static void hoursOfBestPlace() {
        PianoCovers x = Made.at(8);
        x.piano(0, 0);
        Due.due("1", x.bestPlace(1, 1), 10);
        Due.due("2", x.bestPlace(2, 1), 10 + 9);
        PianoCovers y = new PianoCovers();
        y.set(PianoCovers.TUNE, 0);
        y.set(PianoCovers.PLAY, 50);
        y.piano(0, 0);
        int coins = 0;
        for (int pitch = 100; pitch > 100 - 2 * 14; pitch--) {
            coins += 50 * pitch / 100;
        }
        Due.due("48, two days", y.bestPlace(48, 1), coins);
        y.pass(10);
        int more = 0;
        for (int pitch = 98; pitch > 98 - 12 - 14 - 2; pitch--) {
            more += 50 * pitch / 100;
        }
        Due.due("48 from hour 10 on: the last are hours 8 and 9", y.bestPlace(48, 1), more);
        Due.due("47: without hour 9", y.bestPlace(47, 1), more - 50 * 71 / 100);
    }

    private static void placeOrCoins() {
        PianoCovers x = outOfTuneAt(7);
        Due.due("0", x.bestPlace(1, 0), 7);
        Due.due("1", x.bestPlace(1, 1), 1);
    }

    private static void argumentsOutOfRange() {
        Made.refused("bestPlace(0, 0)", x -> x.bestPlace(0, 0), PianoCovers.BAD_VALUE);
        Made.refused("bestPlace(49, 0)", x -> x.bestPlace(49, 0), PianoCovers.BAD_VALUE);
        Made.refused("bestPlace(-1, 1)", x -> x.bestPlace(-1, 1), PianoCovers.BAD_VALUE);
        Made.refused("bestPlace(1, -1)", x -> x.bestPlace(1, -1), PianoCovers.BAD_VALUE);
        Made.refused("bestPlace(48, 2)", x -> x.bestPlace(48, 2), PianoCovers.BAD_VALUE);
        Made.refused("bestPlace(MIN, 0)", x -> x.bestPlace(Integer.MIN_VALUE, 0), PianoCovers.BAD_VALUE);
        Made.refused("bestPlace(MAX, 0)", x -> x.bestPlace(Integer.MAX_VALUE, 0), PianoCovers.BAD_VALUE);
        Made.refused("bestPlace(1, MIN)", x -> x.bestPlace(1, Integer.MIN_VALUE), PianoCovers.BAD_VALUE);
        Made.refused("bestPlace(1, MAX)", x -> x.bestPlace(1, Integer.MAX_VALUE), PianoCovers.BAD_VALUE);
    }
}
