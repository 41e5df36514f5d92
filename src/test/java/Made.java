import java.util.function.Supplier;
import java.util.function.ToIntFunction;

/**
 * Objects that tests begin with, and twins: of two objects made alike one gets a call that is refused, and all that
 * both answer behind it is the same. No object here gets more than 512 calls.
 */
final class Made {
    private Made() { }

    /** An object at the hour so many hours after its begin. */
    static PianoCovers at(int hours) {
        PianoCovers x = new PianoCovers();
        Help.passAll(x, hours);
        return x;
    }

    /** One with something in each place that an error could reach. */
    static PianoCovers rich() {
        PianoCovers x = new PianoCovers();
        x.piano(2, 1);
        x.piano(5, 1);
        x.keeper(5);
        x.rain(Help.hour(0, 10));
        x.save(0);
        x.pass(1);
        x.piano(9, 0);
        x.save(1);
        x.keeper(11);
        x.set(PianoCovers.PLAY, 33);
        x.pass(9);
        Help.write(x, "p7c;k0");
        return x;
    }

    static PianoCovers withFourKeepers() {
        PianoCovers x = rich();
        x.keeper(0);
        x.keeper(11);
        return x;
    }

    /** Four keepers that all covered, opened, tuned and went, a stolen cover, and 11 with coins, rain and damp. */
    static PianoCovers busy() {
        PianoCovers x = new PianoCovers();
        x.set(PianoCovers.THIEF, 1);
        x.set(PianoCovers.FALL, 20);
        x.set(PianoCovers.TUNE, 100);
        x.rain(Help.hour(1, 2, 3, 13));
        x.piano(0, 1);
        x.pass(1);
        x.take(0);
        for (int keeper = 0; keeper < 4; keeper++) {
            x.piano(3 * keeper + 2, 1);
            x.keeper(3 * keeper + 1);
        }
        x.pass(11);
        x.take(11);
        x.piano(11, 0);
        x.pass(2);
        return x;
    }

    static PianoCovers withTwelvePianos() {
        PianoCovers x = new PianoCovers();
        for (int place = 0; place < 12; place++) {
            x.piano(place, place % 2);
        }
        return x;
    }

    static PianoCovers with9999Hours() {
        PianoCovers x = at(9999 - 10);
        x.piano(3, 1);
        x.keeper(1);
        x.pass(10);
        return x;
    }

    /** A pad of 80 characters without a fault. */
    static PianoCovers withFullPad() {
        PianoCovers x = new PianoCovers();
        x.piano(3, 1);
        x.keeper(1);
        Help.write(x, "r-;".repeat(26) + "r9");
        return x;
    }

    static PianoCovers withPad(String text) {
        PianoCovers x = new PianoCovers();
        Help.write(x, text);
        return x;
    }

    static void refused(String call, Supplier<PianoCovers> made, ToIntFunction<PianoCovers> refused, int error) {
        PianoCovers x = made.get();
        Due.due(call, refused.applyAsInt(x), error);
        Due.same("behind " + call, life(x), life(made.get()));
    }

    /** The same for a call on an object that holds something of everything. */
    static void refused(String call, ToIntFunction<PianoCovers> refused, int error) {
        refused(call, Made::rich, refused, error);
    }

    /** What an object answers from here on: its street, its history, its slots, its pad. */
    static String life(PianoCovers x) {
        StringBuilder told = new StringBuilder(Help.all(x));
        for (int left = x.undo(); left >= 0; left = x.undo()) {
            told.append("\nundo ").append(left).append(": ").append(brief(x));
        }
        for (int slot = 0; slot <= 1; slot++) {
            int answer = x.restore(slot);
            told.append("\nrestore ").append(answer).append(": ").append(answer < 0 ? "" : Help.street(x));
        }
        told.append("\ncarryOut ").append(x.carryOut()).append(": ").append(Help.street(x));
        return told.toString();
    }

    /** The street with one piano and one keeper of those that there are, so that the calls suffice. */
    private static String brief(PianoCovers x) {
        StringBuilder seen = new StringBuilder();
        for (int what = 0; what <= 16; what++) {
            seen.append(x.count(what)).append(' ');
        }
        int pianos = x.count(1);
        for (int what = 0; what <= 4; what++) {
            seen.append(pianos == 0 ? -1 : x.of(Integer.numberOfTrailingZeros(pianos), what)).append(' ');
            seen.append(x.ofKeeper(0, what)).append(' ');
        }
        return seen.toString();
    }
}
