/** The term "An hour", and with it promise 8: keepers, rain, playing, thieves. */
final class HourTest {
    public static void main(String[] args) {
        rainAhead();
        nearestAndLower();
        goesAndCovers();
        opensAfterRain();
        keepersChooseApart();
        chosenOnesAreNotTuned();
        tuning();
        tuningWaitsForCovers();
        rainFalls();
        rainOfLargeSettings();
        dryingAhead();
        playingHours();
        playingFallsToNothing();
        coveredStay();
        thievesByHour();
        thievesByRule();
        thievesAndKeepers();
        Due.finish("HourTest");
    }

    /** An object at the hour so many hours after its begin. */
    private static PianoCovers at(int hours) {
        PianoCovers x = new PianoCovers();
        Help.passAll(x, hours);
        return x;
    }

    private static void rainAhead() {
        int[][] rows = {
            // WARN, hour of rain, hour of now, whether it is ahead
            {2, 5, 2, 0}, {2, 5, 3, 1}, {2, 5, 4, 1}, {2, 5, 5, 1}, {2, 5, 6, 0},
            {0, 5, 4, 0}, {0, 5, 5, 1}, {0, 5, 6, 0},
            {12, 1, 12, 0}, {12, 1, 13, 1}, {12, 1, 23, 1}, {12, 1, 1, 1}, {12, 1, 2, 0},
            {2, 0, 21, 0}, {2, 0, 22, 1}, {2, 0, 23, 1}, {2, 23, 20, 0}, {2, 23, 21, 1},
            {2, 5, 24 + 3, 1}, {2, 5, 24 + 2, 0}, {1, 5, 48 + 4, 1}};
        for (int[] row : rows) {
            PianoCovers x = at(row[2]);
            x.set(PianoCovers.WARN, row[0]);
            x.rain(Help.hour(row[1]));
            String name = "WARN " + row[0] + ", rain " + row[1] + ", now " + row[2];
            Due.due(name, x.count(8), row[3]);
            Due.due(name + " rains", x.count(9), row[1] == row[2] % 24 ? 1 : 0);
        }
    }

    private static void nearestAndLower() {
        int[][] rows = {
            // keeper's place, pianos, where it is after an hour
            {5, 3, 7, 4}, {5, 2, 7, 6}, {5, 3, 8, 4}, {0, 11, 10, 1}, {11, 0, 1, 10}, {5, 4, 6, 4}};
        for (int[] row : rows) {
            PianoCovers x = new PianoCovers();
            x.rain(1);
            x.keeper(row[0]);
            x.piano(row[1], 1);
            x.piano(row[2], 1);
            x.pass(1);
            Due.due("from " + row[0] + " among " + row[1] + ", " + row[2], x.ofKeeper(0, 0), row[3]);
            Due.due("it went one place", x.ofKeeper(0, 4), 1);
        }
        PianoCovers x = new PianoCovers();
        x.rain(1);
        x.keeper(5);
        x.piano(4, 0);
        x.piano(9, 1);
        x.pass(1);
        Due.due("one without a cover is passed over", x.ofKeeper(0, 0), 6);
    }

    private static void goesAndCovers() {
        PianoCovers x = new PianoCovers();
        x.rain(Help.hour(0, 1, 2, 3));
        x.piano(2, 1);
        x.keeper(0);
        x.pass(1);
        Due.due("after one hour at", x.ofKeeper(0, 0), 1);
        x.pass(1);
        Due.due("after two hours at", x.ofKeeper(0, 0), 2);
        Due.due("it only went", x.of(2, 2), 1);
        x.pass(1);
        Due.due("after three hours it is covered", x.of(2, 2), 2);
        Due.due("covered once", x.ofKeeper(0, 1), 1);
        Due.due("went two places", x.ofKeeper(0, 4), 2);
        Due.due("rained on in the hours before", x.of(2, 4), 2);
        x.pass(1);
        Due.due("then not", x.of(2, 4), 2);
        Due.due("covered once still", x.ofKeeper(0, 1), 1);
    }

    private static void opensAfterRain() {
        PianoCovers x = new PianoCovers();
        x.set(PianoCovers.WARN, 0);
        x.rain(Help.hour(0));
        x.piano(3, 1);
        x.keeper(3);
        x.pass(1);
        Due.due("covered in the hour of rain", x.of(3, 2), 2);
        Due.due("and not rained on", x.of(3, 4), 0);
        x.pass(1);
        Due.due("opened in the hour behind", x.of(3, 2), 1);
        Due.due("opened once", x.ofKeeper(0, 2), 1);
        Due.due("not covered again", x.ofKeeper(0, 1), 1);
        x.pass(22);
        Due.due("open until the next day", x.of(3, 2), 1);
        x.pass(1);
        Due.due("covered again", x.ofKeeper(0, 1), 2);
    }

    private static void keepersChooseApart() {
        PianoCovers x = new PianoCovers();
        x.rain(Help.ALL_HOURS);
        x.piano(1, 1);
        x.piano(5, 1);
        x.keeper(0);
        x.keeper(0);
        x.keeper(0);
        x.pass(1);
        Due.due("keeper 0 goes to 1", x.ofKeeper(0, 0), 1);
        Due.due("keeper 1 goes towards 5", x.ofKeeper(1, 0), 1);
        Due.due("keeper 2 has nothing to do", x.ofKeeper(2, 0), 0);
        x.pass(1);
        Due.due("keeper 0 covers", x.ofKeeper(0, 1), 1);
        Due.due("keeper 1 does not", x.ofKeeper(1, 1), 0);
        Due.due("keeper 1 goes on", x.ofKeeper(1, 0), 2);
        x.pass(1);
        Due.due("keeper 0 follows 5 as its nearest", x.ofKeeper(0, 0), 2);
        Due.due("keeper 1 may not choose it then", x.ofKeeper(1, 0), 2);
    }

    private static void chosenOnesAreNotTuned() {
        PianoCovers x = new PianoCovers();
        x.set(PianoCovers.FALL, 20);
        x.set(PianoCovers.WARN, 0);
        x.piano(6, 1);
        x.piano(8, 0);
        x.rain(Help.hour(0, 1, 2, 3));
        x.pass(3);
        x.keeper(6);
        x.keeper(6);
        x.pass(1);
        Due.due("6 is covered by keeper 0", x.of(6, 2), 2);
        Due.due("its pitch", x.of(6, 0), 40);
        Due.due("keeper 1 went to tune 8", x.ofKeeper(1, 0), 7);
        x.take(8);
        x.pass(1);
        Due.due("keeper 0 opened 6", x.ofKeeper(0, 2), 1);
        Due.due("keeper 1 did not tune it in this hour", x.of(6, 0), 40);
        Due.due("nor did it go", x.ofKeeper(1, 0), 7);
        x.pass(1);
        Due.due("keeper 0 tuned it in the next one", x.of(6, 0), 50);
        Due.due("tuned once", x.ofKeeper(0, 3), 1);
        Due.due("by keeper 0 alone", x.ofKeeper(1, 3), 0);
    }

    private static void tuning() {
        PianoCovers x = new PianoCovers();
        x.set(PianoCovers.FALL, 20);
        x.piano(0, 0);
        x.rain(3);
        x.pass(2);
        Due.due("pitch", x.of(0, 0), 60);
        x.rain(0);
        x.keeper(0);
        x.pass(1);
        Due.due("60 is not below 60", x.of(0, 0), 60);
        x.set(PianoCovers.TUNE, 61);
        x.pass(1);
        Due.due("60 is below 61", x.of(0, 0), 70);
        Due.due("tuned once", x.ofKeeper(0, 3), 1);
        x.set(PianoCovers.TUNE, 100);
        x.pass(2);
        Due.due("70, 80, 90", x.of(0, 0), 90);
        x.rain(Help.hour(6));
        x.set(PianoCovers.FALL, 5);
        x.pass(1);
        Due.due("tuned to 100, then rained on", x.of(0, 0), 95);
        x.pass(1);
        Due.due("hour 7: at most 100", x.of(0, 0), 100);
        Due.due("tuned", x.ofKeeper(0, 3), 5);
        x.pass(1);
        Due.due("hour 8: played at 100, not tuned", x.of(0, 0), 99);
        Due.due("tuned as often", x.ofKeeper(0, 3), 5);
        x.set(PianoCovers.TUNE, 0);
        x.pass(5);
        Due.due("TUNE 0: never", x.ofKeeper(0, 3), 5);
    }

    private static void tuningWaitsForCovers() {
        PianoCovers x = new PianoCovers();
        x.set(PianoCovers.FALL, 20);
        x.rain(Help.hour(0, 1, 2, 3, 4, 5, 6));
        x.piano(0, 0);
        x.piano(4, 1);
        x.pass(3);
        Due.due("both below TUNE", x.of(0, 0) + x.of(4, 0), 80);
        x.keeper(0);
        x.pass(1);
        Due.due("it goes to cover first", x.ofKeeper(0, 0), 1);
        x.take(4);
        x.pass(1);
        Due.due("it goes back to tune, in the rain", x.ofKeeper(0, 0), 0);
        x.pass(1);
        Due.due("it tunes in the rain", x.ofKeeper(0, 3), 1);
    }

    private static void rainFalls() {
        PianoCovers x = new PianoCovers();
        x.piano(7, 1);
        x.rain(Help.ALL_HOURS);
        x.pass(1);
        Due.due("damp", x.of(7, 1), 20);
        Due.due("pitch", x.of(7, 0), 97);
        Due.due("rained on", x.of(7, 4), 1);
        Due.due("coins", x.of(7, 3), 0);
        x.pass(5);
        Due.due("at most 100", x.of(7, 1), 100);
        Due.due("pitch then", x.of(7, 0), 82);
        x.pass(30);
        Due.due("at least 0", x.of(7, 0), 0);
        Due.due("rained on then", x.of(7, 4), 36);
        Due.due("no coins in rain", x.count(5), 0);
        x.set(PianoCovers.FALL, 0);
        x.take(7);
        x.piano(7, 0);
        x.pass(1);
        Due.due("FALL 0", x.of(7, 0), 100);
    }

    private static void rainOfLargeSettings() {
        PianoCovers x = new PianoCovers();
        x.set(PianoCovers.WET, 50);
        x.set(PianoCovers.FALL, 20);
        x.set(PianoCovers.DRY, 20);
        x.piano(0, 0);
        x.rain(Help.hour(0, 1, 2));
        x.pass(3);
        Due.due("damp", x.of(0, 1), 100);
        Due.due("pitch", x.of(0, 0), 40);
        x.pass(1);
        Due.due("drier", x.of(0, 1), 80);
        x.pass(4);
        Due.due("dry", x.of(0, 1), 0);
        x.rain(Help.hour(8));
        x.set(PianoCovers.WET, 1);
        x.pass(2);
        Due.due("at least 0", x.of(0, 1), 0);
    }

    private static void dryingAhead() {
        PianoCovers x = new PianoCovers();
        x.set(PianoCovers.FALL, 0);
        x.set(PianoCovers.WET, 27);
        x.piano(0, 0);
        x.rain(Help.hour(6, 7));
        x.pass(8);
        Due.due("damp of two hours", x.of(0, 1), 54);
        Due.due("50 is too damp", x.pass(1), 0);
        Due.due("it dried to 50", x.of(0, 1), 50);
        Due.due("46 is not", x.pass(1), 10);
        PianoCovers y = new PianoCovers();
        y.set(PianoCovers.FALL, 0);
        y.set(PianoCovers.WET, 50);
        y.set(PianoCovers.DRY, 1);
        y.piano(0, 0);
        y.rain(Help.hour(7));
        y.pass(8);
        Due.due("damp ahead of 8", y.of(0, 1), 50);
        Due.due("the damp then is 49: it is played", y.pass(1), 10);
    }

    private static void playingHours() {
        for (int hour = 0; hour < 24; hour++) {
            PianoCovers x = at(hour);
            x.piano(11, 0);
            boolean played = hour >= 8 && hour <= 21;
            Due.due("coins of hour " + hour, x.pass(1), played ? 10 : 0);
            Due.due("pitch of hour " + hour, x.of(11, 0), played ? 99 : 100);
            Due.due("coins of it " + hour, x.of(11, 3), played ? 10 : 0);
        }
        PianoCovers x = at(8);
        x.set(PianoCovers.PLAY, 50);
        x.piano(1, 0);
        x.piano(2, 0);
        Due.due("two bring", x.pass(1), 100);
        Due.due("49 each", x.pass(1), 98);
        x.set(PianoCovers.PLAY, 1);
        Due.due("rounded down", x.pass(1), 0);
        x.set(PianoCovers.PLAY, 0);
        Due.due("nothing", x.pass(1), 0);
        Due.due("but it is played", x.of(1, 0), 96);
        Due.due("each brought", x.of(2, 3), 99);
        Due.due("all brought", x.count(5), 198);
    }

    private static void playingFallsToNothing() {
        PianoCovers x = new PianoCovers();
        x.piano(0, 0);
        x.set(PianoCovers.PLAY, 50);
        int coins = Help.passAll(x, 24 * 8);
        int due = 0;
        for (int pitch = 100; pitch > 0; pitch--) {
            due += 50 * pitch / 100;
        }
        Due.due("a hundred times played, pitch", x.of(0, 0), 0);
        Due.due("coins of a hundred times", coins, due);
    }

    private static void coveredStay() {
        PianoCovers x = new PianoCovers();
        x.rain(Help.hour(0));
        x.piano(3, 1);
        x.pass(1);
        x.rain(Help.ALL_HOURS);
        x.keeper(3);
        x.pass(1);
        Due.due("covered", x.of(3, 2), 2);
        x.pass(10);
        Due.due("pitch stays", x.of(3, 0), 97);
        Due.due("damp stays", x.of(3, 1), 20);
        Due.due("rained on once", x.of(3, 4), 1);
        x.set(PianoCovers.WARN, 0);
        x.rain(Help.ALL_HOURS & ~Help.hour(12));
        x.pass(1);
        Due.due("hour 12: opened, dried, played", x.of(3, 1) * 1000 + x.of(3, 0), 16096);
        PianoCovers y = at(9);
        y.piano(3, 1);
        y.rain(Help.hour(10));
        y.keeper(3);
        Due.due("covered ahead of the rain: no coins", y.pass(1), 0);
        Due.due("pitch stays, too", y.of(3, 0), 100);
    }

    private static void thievesByHour() {
        for (int hour = 0; hour < 24; hour++) {
            PianoCovers x = at(hour);
            x.set(PianoCovers.THIEF, 1);
            x.piano(0, 1);
            x.piano(11, 1);
            x.piano(5, 0);
            x.pass(1);
            boolean night = hour >= 22 || hour <= 5;
            Due.due("stolen in hour " + hour, x.count(6), night ? 2 : 0);
            Due.due("covers left in hour " + hour, x.count(3), night ? 0 : 1 << 11 | 1);
            Due.due("the piano stays in hour " + hour, x.of(11, 2), night ? 0 : 1);
        }
    }

    private static void thievesByRule() {
        for (int thief = 1; thief <= 20; thief++) {
            for (int hour : new int[] {0, 3, 5, 22, 23, 24, 46, 52, 118}) {
                PianoCovers x = at(hour);
                x.set(PianoCovers.THIEF, thief);
                int left = 0;
                int went = 0;
                for (int place = 0; place < 12; place++) {
                    x.piano(place, 1);
                    if ((7 * hour + 3 * place) % thief == 0) {
                        went++;
                    } else {
                        left |= 1 << place;
                    }
                }
                x.pass(1);
                Due.due("THIEF " + thief + ", hours " + hour + ", left", x.count(3), left);
                Due.due("THIEF " + thief + ", hours " + hour + ", stolen", x.count(6), went);
            }
        }
    }

    private static void thievesAndKeepers() {
        PianoCovers x = new PianoCovers();
        x.set(PianoCovers.THIEF, 1);
        x.piano(4, 1);
        x.piano(5, 1);
        x.keeper(4);
        x.pass(1);
        Due.due("a keeper is at 4, none at 5", x.count(3), 1 << 4);
        x.cover(5);
        x.piano(9, 1);
        x.take(4);
        x.set(PianoCovers.WARN, 12);
        x.rain(Help.hour(1));
        x.pass(1);
        Due.due("the keeper came to 5 in this hour", x.count(3), 1 << 5);
        x.pass(3);
        Due.due("still there", x.of(5, 2), 1);
        PianoCovers y = new PianoCovers();
        y.set(PianoCovers.THIEF, 1);
        y.rain(Help.hour(0, 1, 2, 3, 4, 5));
        y.piano(2, 1);
        y.keeper(2);
        y.pass(1);
        y.piano(7, 1);
        y.pass(1);
        Due.due("the keeper leaves a covered piano: only the other cover goes", y.count(6), 1);
        Due.due("covered", y.count(2), 4);
        PianoCovers z = new PianoCovers();
        z.set(PianoCovers.THIEF, 1);
        z.set(PianoCovers.TUNE, 100);
        z.piano(2, 1);
        z.piano(3, 0);
        z.set(PianoCovers.FALL, 1);
        z.rain(Help.hour(0));
        z.set(PianoCovers.WARN, 0);
        z.pass(1);
        Due.due("stolen without a keeper", z.count(6), 1);
        z.cover(2);
        z.keeper(2);
        z.pass(1);
        Due.due("the keeper tunes at 2, the cover stays", z.count(3), 4);
        z.pass(1);
        Due.due("the keeper leaves for 3, the cover goes", z.count(6), 2);
    }
}
