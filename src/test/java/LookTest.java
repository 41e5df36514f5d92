/** Promises 9 to 12: what there is. */
final class LookTest {
    public static void main(String[] args) {
        of();
        ofKeeper();
        count();
        worst();
        Due.finish("LookTest");
    }

    private static void of() {
        PianoCovers x = new PianoCovers();
        x.piano(0, 0);
        x.piano(11, 1);
        x.rain(Help.hour(1));
        x.pass(9);
        x.keeper(0);
        x.keeper(11);
        x.keeper(11);
        Due.due("pitch: rain 3, played 1", x.of(0, 0), 96);
        Due.due("damp: 20, seven hours without", x.of(0, 1), 0);
        Due.due("cover of 0", x.of(0, 2), 0);
        Due.due("cover of 11", x.of(11, 2), 1);
        Due.due("coins: 10 * 97 / 100", x.of(0, 3), 9);
        Due.due("hours of rain", x.of(0, 4), 1);
        Due.due("one keeper", x.of(0, 5), 1);
        Due.due("two keepers", x.of(11, 5), 2);
        x.rain(Help.hour(9));
        x.pass(1);
        Due.due("keeper 0 chose it and goes there", x.of(11, 2), 1);
        x.rain(Help.ALL_HOURS);
        x.pass(11);
        Due.due("ten places and an hour", x.of(11, 2), 2);
        Due.due("three keepers there", x.of(11, 5), 3);
        String seen = Help.all(x);
        Due.due("of(0, 6)", x.of(0, 6), -2);
        Due.due("of(0, -1)", x.of(0, -1), -2);
        Due.due("of(1, 0)", x.of(1, 0), -1);
        Due.due("of(1, 6): the place first", x.of(1, 6), -1);
        Due.due("of(12, 0)", x.of(12, 0), -1);
        Due.due("of(32, 0)", x.of(32, 0), -1);
        for (int odd : Help.ODD) {
            Due.due("of(" + odd + ", 0)", x.of(odd, 0), -1);
            Due.due("of(0, " + odd + ")", x.of(0, odd), -2);
        }
        Due.same("of changes nothing", Help.all(x), seen);
    }

    private static void ofKeeper() {
        PianoCovers x = new PianoCovers();
        x.set(PianoCovers.FALL, 20);
        x.set(PianoCovers.WARN, 0);
        x.piano(2, 1);
        x.rain(Help.hour(0, 1, 2));
        x.pass(3);
        x.keeper(0);
        x.keeper(9);
        x.pass(4);
        Due.due("place", x.ofKeeper(0, 0), 2);
        Due.due("covered", x.ofKeeper(0, 1), 0);
        Due.due("opened", x.ofKeeper(0, 2), 0);
        Due.due("tuned", x.ofKeeper(0, 3), 2);
        Due.due("went", x.ofKeeper(0, 4), 2);
        Due.due("the other did nothing", x.ofKeeper(1, 4) + x.ofKeeper(1, 3), 0);
        x.rain(Help.hour(7));
        x.pass(2);
        Due.due("covered then", x.ofKeeper(0, 1), 1);
        Due.due("opened then", x.ofKeeper(0, 2), 1);
        Due.due("ofKeeper(0, 5)", x.ofKeeper(0, 5), -2);
        Due.due("ofKeeper(0, -1)", x.ofKeeper(0, -1), -2);
        Due.due("ofKeeper(2, 0)", x.ofKeeper(2, 0), -1);
        Due.due("ofKeeper(2, 9): the keeper first", x.ofKeeper(2, 9), -1);
        Due.due("ofKeeper(4, 0)", x.ofKeeper(4, 0), -1);
        for (int odd : Help.ODD) {
            Due.due("ofKeeper(" + odd + ", 0)", x.ofKeeper(odd, 0), -1);
            Due.due("ofKeeper(0, " + odd + ")", x.ofKeeper(0, odd), -2);
        }
        x.keeper(1);
        x.keeper(1);
        Due.due("the last one", x.ofKeeper(3, 0), 1);
        x.bestPlace(5, 0);
        Due.due("there is no fifth", x.ofKeeper(4, 0), -1);
    }

    private static void count() {
        PianoCovers x = new PianoCovers();
        x.piano(1, 1);
        x.piano(4, 1);
        x.piano(6, 0);
        x.keeper(4);
        x.rain(Help.hour(0, 23));
        x.set(PianoCovers.THIEF, 3);
        x.pass(1);
        Due.due("hours", x.count(0), 1);
        Due.due("pianos", x.count(1), 1 << 1 | 1 << 4 | 1 << 6);
        Due.due("covered", x.count(2), 1 << 4);
        Due.due("stolen at 1: 7 * 0 + 3", x.count(6), 1);
        Due.due("none lies", x.count(3), 0);
        x.cover(6);
        Due.due("one lies", x.count(3), 1 << 6);
        Due.due("keepers", x.count(4), 1);
        x.pass(7);
        Due.due("no coins yet", x.count(5), 0);
        x.pass(1);
        Due.due("three at 100, 97, 97", x.count(5), 10 + 9 + 9);
        Due.due("rain", x.count(7), 1 << 23 | 1);
        Due.due("not ahead", x.count(8), 0);
        Due.due("not raining", x.count(9), 0);
        x.pass(12);
        Due.due("hour 21: ahead", x.count(8), 1);
        Due.due("hour 21: not raining", x.count(9), 0);
        x.pass(2);
        Due.due("hour 23: raining", x.count(9), 1);
        for (int setting = 0; setting < 7; setting++) {
            int value = x.set(setting, 5);
            Due.due("setting " + setting, x.count(10 + setting), 5);
            x.set(setting, value);
            Due.due("setting again " + setting, x.count(10 + setting), value);
        }
        Help.write(x, "p1;hello");
        Due.due("length of the pad", x.count(17), 8);
        Due.due("history", x.count(18), 6);
        x.undo();
        Due.due("history then", x.count(18), 5);
        Due.due("count(19)", x.count(19), -2);
        for (int odd : Help.ODD) {
            Due.due("count(" + odd + ")", x.count(odd), -2);
        }
    }

    private static void worst() {
        PianoCovers x = new PianoCovers();
        Due.due("there is none", x.worst(), -6);
        x.piano(11, 0);
        Due.due("the only one", x.worst(), 11);
        x.piano(5, 0);
        x.piano(3, 0);
        Due.due("the lowest of three", x.worst(), 3);
        x.take(5);
        x.rain(1);
        x.pass(1);
        x.piano(5, 0);
        Due.due("those rained on are worse", x.worst(), 3);
        x.take(3);
        Due.due("and 11", x.worst(), 11);
        x.take(11);
        Due.due("and 5", x.worst(), 5);
        x.piano(0, 0);
        Due.due("of two alike the lower one", x.worst(), 0);
        PianoCovers y = new PianoCovers();
        y.set(PianoCovers.FALL, 20);
        y.rain(Help.ALL_HOURS);
        y.piano(8, 0);
        y.pass(10);
        Due.due("100 below nothing", y.of(8, 0) - y.of(8, 1), -100);
        Due.due("it is found all the same", y.worst(), 8);
        PianoCovers z = new PianoCovers();
        z.set(PianoCovers.WET, 30);
        z.set(PianoCovers.DRY, 1);
        z.piano(6, 0);
        z.rain(1);
        z.pass(8);
        z.set(PianoCovers.FALL, 20);
        z.set(PianoCovers.WET, 1);
        z.rain(Help.hour(8));
        z.piano(9, 0);
        z.pass(1);
        Due.due("damp counts as pitch does: 77 - 24", z.of(6, 0) - z.of(6, 1), 53);
        Due.due("80 - 1", z.of(9, 0) - z.of(9, 1), 79);
        Due.due("so 6 is worst", z.worst(), 6);
    }
}
