/** Promises 13 to 17: what if; nothing changes. */
final class WhatIfTest {
    public static void main(String[] args) {
        why();
        rainIn();
        coveredIn();
        coveredInAtItsBound();
        willBeWet();
        bestPlace();
        bestPlaceWithFour();
        bestPlaceWithFourKeepsThievesOff();
        bestPlaceKeepsItsOrder();
        nothingChanges();
        Due.finish("WhatIfTest");
    }

    private static void why() {
        PianoCovers x = new PianoCovers();
        Due.due("why(0) without a piano", x.why(0), -1);
        x.piano(0, 0);
        x.rain(1);
        Due.due("no cover, also in rain", x.why(0), 1);
        x.cover(0);
        x.rain(0);
        Due.due("no rain ahead", x.why(0), 2);
        x.rain(Help.hour(2));
        Due.due("no keeper", x.why(0), 3);
        x.keeper(1);
        Due.due("no keeper at its place", x.why(0), 4);
        x.keeper(0);
        Due.due("else", x.why(0), 5);
        x.pass(1);
        Due.due("else: keeper 0 chose it", x.why(0), 5);
        x.pass(1);
        Due.due("it is", x.why(0), 0);
        x.rain(0);
        Due.due("it is, also without rain", x.why(0), 0);
        Due.due("why(1)", x.why(1), -1);
        Due.due("why(12)", x.why(12), -1);
        Due.due("why(32)", x.why(32), -1);
        for (int odd : Help.ODD) {
            Due.due("why(" + odd + ")", x.why(odd), -1);
        }
    }

    private static void rainIn() {
        PianoCovers x = new PianoCovers();
        Due.due("never", x.rainIn(), -6);
        x.rain(1);
        Due.due("now", x.rainIn(), 0);
        x.pass(1);
        Due.due("tomorrow", x.rainIn(), 23);
        x.pass(22);
        Due.due("in the next hour", x.rainIn(), 1);
        x.rain(1 << 22);
        Due.due("22 from 23", x.rainIn(), 23);
        x.rain(Help.hour(3, 9));
        Due.due("the first of two", x.rainIn(), 4);
        x.pass(5);
        Due.due("the second of two", x.rainIn(), 5);
    }

    private static void coveredIn() {
        PianoCovers x = new PianoCovers();
        Due.due("coveredIn(3) without a piano", x.coveredIn(3), -1);
        x.piano(3, 1);
        x.piano(8, 0);
        Due.due("no rain", x.coveredIn(3), -6);
        x.rain(Help.hour(12));
        Due.due("no keeper", x.coveredIn(3), -6);
        x.keeper(3);
        Due.due("hours 0 to 9 pass, 10 covers", x.coveredIn(3), 11);
        Due.due("one without a cover", x.coveredIn(8), -6);
        x.pass(10);
        Due.due("this hour", x.coveredIn(3), 1);
        x.pass(1);
        Due.due("it is", x.coveredIn(3), 0);
        Due.due("coveredIn(12)", x.coveredIn(12), -1);
        Due.due("coveredIn(35)", x.coveredIn(35), -1);
        for (int odd : Help.ODD) {
            Due.due("coveredIn(" + odd + ")", x.coveredIn(odd), -1);
        }
        PianoCovers y = new PianoCovers();
        y.rain(Help.ALL_HOURS);
        y.keeper(0);
        y.piano(11, 1);
        Due.due("eleven places and an hour, and no thief", y.coveredIn(11), 12);
        y.set(PianoCovers.THIEF, 1);
        Due.due("the cover is stolen ahead of it", y.coveredIn(11), -6);
    }

    /** What is foretold is what comes, and 96 hours are within the bound, 97 not. */
    private static void coveredInAtItsBound() {
        for (int hour = 0; hour < 24; hour++) {
            PianoCovers x = new PianoCovers();
            x.set(PianoCovers.WARN, 0);
            x.rain(Help.hour(hour));
            x.piano(5, 1);
            x.keeper(0);
            int due = -6;
            PianoCovers y = new PianoCovers();
            y.set(PianoCovers.WARN, 0);
            y.rain(Help.hour(hour));
            y.piano(5, 1);
            y.keeper(0);
            for (int passed = 1; passed <= 110 && due == -6; passed++) {
                y.pass(1);
                due = y.of(5, 2) == 2 ? passed : -6;
            }
            Due.due("rain at " + hour, x.coveredIn(5), due > 96 ? -6 : due);
        }
        // A keeper 3 places off, and rain in one hour a day: it goes a place a day, and covers on the fourth.
        // THIEF is 7, and 7 does not divide 3 * 3: no cover is stolen.
        int[][] rows = {{23, 96}, {22, 95}, {0, 73}};
        for (int[] row : rows) {
            PianoCovers x = new PianoCovers();
            x.set(PianoCovers.WARN, 0);
            x.set(PianoCovers.TUNE, 0);
            x.rain(Help.hour(row[0]));
            x.piano(3, 1);
            x.keeper(0);
            Due.due("rain at " + row[0] + ", three places off", x.coveredIn(3), row[1]);
        }
        PianoCovers x = new PianoCovers();
        x.set(PianoCovers.WARN, 0);
        x.set(PianoCovers.TUNE, 0);
        x.rain(Help.hour(23));
        x.piano(4, 1);
        x.keeper(1);
        Due.due("the last hour that counts", x.coveredIn(4), 96);
        x.undo();
        x.keeper(0);
        Due.due("a day later", x.coveredIn(4), -6);
        for (int hours = 1; hours <= 23; hours++) {
            x.pass(1);
            Due.due("a day later, " + hours, x.coveredIn(4), -6);
        }
        x.pass(1);
        Due.due("a day later, the next day", x.coveredIn(4), 96);
    }

    private static void willBeWet() {
        PianoCovers x = new PianoCovers();
        Due.due("no pianos", x.willBeWet(99), 0);
        x.piano(0, 0);
        x.piano(11, 0);
        x.piano(4, 1);
        Due.due("no rain", x.willBeWet(99), 0);
        x.rain(Help.hour(3));
        Due.due("three hours", x.willBeWet(3), 0);
        Due.due("four hours", x.willBeWet(4), 1 | 1 << 4 | 1 << 11);
        x.keeper(4);
        Due.due("one is covered", x.willBeWet(4), 1 | 1 << 11);
        x.rain(Help.ALL_HOURS);
        x.set(PianoCovers.WET, 50);
        x.pass(50);
        Due.due("also those that are wet through", x.willBeWet(1), 1 | 1 << 11);
        Due.due("willBeWet(0)", x.willBeWet(0), -2);
        Due.due("willBeWet(100)", x.willBeWet(100), -2);
        for (int odd : Help.ODD) {
            Due.due("willBeWet(" + odd + ")", x.willBeWet(odd), -2);
        }
        PianoCovers y = new PianoCovers();
        y.pass(1);
        y.rain(1);
        y.piano(2, 0);
        Due.due("the last of 24 hours", y.willBeWet(24), 4);
        Due.due("none of 23 hours", y.willBeWet(23), 0);
    }

    private static void bestPlace() {
        PianoCovers x = new PianoCovers();
        Due.due("nothing anywhere: the lowest", x.bestPlace(48, 0), 0);
        Due.due("nothing anywhere: no coins", x.bestPlace(48, 1), 0);
        x.piano(7, 0);
        x.set(PianoCovers.FALL, 20);
        x.set(PianoCovers.WET, 1);
        x.rain(Help.hour(0, 1, 2, 3, 4));
        x.pass(7);
        Due.due("pitch 0", x.of(7, 0), 0);
        // In hours 7 and 8 a keeper at 7 tunes twice, one at 6 or 8 once, and is there at hour 8.
        Due.due("two hours, place", x.bestPlace(2, 0), 7);
        Due.due("two hours, coins", x.bestPlace(2, 1), 2);
        Due.due("one hour brings nothing", x.bestPlace(1, 0), 0);
        Due.due("one hour, coins", x.bestPlace(1, 1), 0);
        x.pass(1);
        Due.due("hour 8", x.bestPlace(1, 0), 7);
        Due.due("hour 8, coins", x.bestPlace(1, 1), 1);
        x.set(PianoCovers.PLAY, 9);
        Due.due("9 * 10 / 100 is 0", x.bestPlace(1, 0), 0);
        Due.due("bestPlace(0, 0)", x.bestPlace(0, 0), -2);
        Due.due("bestPlace(49, 0)", x.bestPlace(49, 0), -2);
        Due.due("bestPlace(48, 2)", x.bestPlace(48, 2), -2);
        Due.due("bestPlace(48, -1)", x.bestPlace(48, -1), -2);
        for (int odd : Help.ODD) {
            Due.due("bestPlace(" + odd + ", 0)", x.bestPlace(odd, 0), -2);
            Due.due("bestPlace(1, " + odd + ")", x.bestPlace(1, odd), -2);
        }
        Due.due("no keeper came", x.count(4), 0);
    }

    private static void bestPlaceWithFour() {
        PianoCovers x = new PianoCovers();
        x.set(PianoCovers.FALL, 20);
        x.set(PianoCovers.WET, 1);
        x.rain(Help.hour(0, 1, 2, 3, 4));
        for (int place = 0; place < 5; place++) {
            x.piano(2 * place, 0);
        }
        x.pass(8);
        for (int keeper = 0; keeper < 4; keeper++) {
            x.keeper(2 * keeper);
        }
        x.rain(0);
        Due.due("without one more", copyOf(x).pass(1), 4);
        Due.due("the fifth goes to 8", x.bestPlace(1, 0), 8);
        Due.due("and five bring", x.bestPlace(1, 1), 5);
        Due.due("four keepers", x.count(4), 4);
        Due.due("there is no fifth", x.ofKeeper(4, 0), -1);
    }

    /** A fifth keeper at 0 guards the cover by night; keeper 0 then has one to lay on, and the piano is not played. */
    private static void bestPlaceWithFourKeepsThievesOff() {
        PianoCovers x = new PianoCovers();
        x.set(PianoCovers.THIEF, 1);
        x.set(PianoCovers.TUNE, 0);
        x.set(PianoCovers.FALL, 0);
        x.set(PianoCovers.WET, 1);
        x.set(PianoCovers.WARN, 3);
        x.piano(0, 1);
        x.keeper(2);
        for (int keeper = 1; keeper < 4; keeper++) {
            x.keeper(11);
        }
        x.rain(Help.hour(9));
        Due.due("elsewhere the cover goes, and hour 8 brings", x.bestPlace(9, 1), 10);
        Due.due("so the lowest place but 0", x.bestPlace(9, 0), 1);
    }

    /** The same street, made by the same calls. */
    private static PianoCovers copyOf(PianoCovers like) {
        PianoCovers x = new PianoCovers();
        x.set(PianoCovers.FALL, 20);
        x.set(PianoCovers.WET, 1);
        x.rain(Help.hour(0, 1, 2, 3, 4));
        for (int place = 0; place < 5; place++) {
            x.piano(2 * place, 0);
        }
        x.pass(8);
        for (int keeper = 0; keeper < like.count(4); keeper++) {
            x.keeper(2 * keeper);
        }
        x.rain(0);
        return x;
    }

    /** The one that comes is the last one: it takes what those ahead of it leave. */
    private static void bestPlaceKeepsItsOrder() {
        PianoCovers x = new PianoCovers();
        x.set(PianoCovers.FALL, 20);
        x.set(PianoCovers.WET, 1);
        x.piano(3, 0);
        x.piano(9, 0);
        x.rain(Help.hour(0, 1, 2, 3, 4));
        x.pass(8);
        x.keeper(4);
        x.rain(0);
        for (int hours = 1; hours <= 48; hours += 7) {
            int most = -1;
            int best = -1;
            for (int place = 0; place < 12; place++) {
                x.save(0);
                x.keeper(place);
                int coins = x.pass(hours);
                if (coins > most) {
                    most = coins;
                    best = place;
                }
                x.restore(0);
            }
            Due.due("as if it came, place, " + hours, x.bestPlace(hours, 0), best);
            Due.due("as if it came, coins, " + hours, x.bestPlace(hours, 1), most);
        }
    }

    private static void nothingChanges() {
        PianoCovers x = new PianoCovers();
        Help.write(x, "p1c;k4;r3,20;t7");
        x.carryOut();
        x.save(1);
        Help.write(x, "p3c;");
        String seen = Help.all(x);
        x.why(1);
        x.rainIn();
        x.coveredIn(1);
        x.willBeWet(99);
        x.bestPlace(48, 0);
        x.bestPlace(48, 1);
        x.worst();
        x.fault();
        Due.same("what-ifs change nothing", Help.all(x), seen);
        Due.due("the pad goes on where it was", Help.write(x, "k2"), 6);
        Due.due("and is carried out", x.carryOut(), 2);
        x.restore(1);
        Due.due("the slot is as it was", x.count(1), 2);
    }
}
