import java.util.function.Consumer;
import java.util.function.ToIntFunction;

/** The sentences of the document that name no boundary, and what "What it is" says of an object's calls. */
final class OtherSentences {
    private OtherSentences() { }

    static void run() {
        Sentence.holds("What it is", "An object is used for at most 512 calls after it has been made",
            OtherSentences::the512thCall);
        Sentence.holds("Terms", "CONVENTIONS. A method that fails returns one of the error codes",
            OtherSentences::failsWithAnErrorCode);
        Sentence.holds("Settings", "(In parentheses: range; first value.)", OtherSentences::rangesAndFirstValues);
        Sentence.holds("Texts", "Ahead of the calls set, rain, piano, take, keeper, cover, pass the interface says: "
            + "---- changes", OtherSentences::changes);
        Sentence.holds("Texts", "Ahead of the calls of, ofKeeper, count, worst the interface says: "
            + "---- what there is", OtherSentences::whatThereIs);
        Sentence.holds("Texts", "Ahead of the calls put, wipe, fault, carryOut the interface says: ---- texts",
            OtherSentences::texts);
        Sentence.holds("Texts", "Ahead of the calls undo, save, restore the interface says: ---- undo, saving",
            OtherSentences::undoAndSaving);
        Sentence.holds("Promise 12", "Returns the place", OtherSentences::placeOfTheWorst);
        Sentence.holds("Promise 13", "Tells why a piano is not covered", OtherSentences::whyUntilItIs);
        Sentence.holds("Promise 14", "Tells in how many hours from now it rains next", OtherSentences::hoursUntilRain);
    }

    private static void the512thCall() {
        PianoCovers x = new PianoCovers();
        PlainStreet plain = new PlainStreet();
        int calls = 0;
        for (int place = 0; place < 12; place++) {
            Due.due("call " + ++calls, x.piano(place, place % 2), plain.piano(place, place % 2));
        }
        Due.due("call " + ++calls, x.keeper(6), plain.keeper(6));
        Due.due("call " + ++calls, x.rain(Help.hour(3, 13)), plain.rain(Help.hour(3, 13)));
        while (calls < 510) {
            Due.due("call " + ++calls, x.pass(5), plain.pass(5));
            Due.due("call " + ++calls, x.bestPlace(48, 1), plain.bestPlace(48, 1));
        }
        Due.due("call " + ++calls, x.undo(), plain.undo());
        Due.due("call " + ++calls, x.count(5), plain.count(5));
        Due.due("calls", calls, 512);
    }

    private static void failsWithAnErrorCode() {
        Made.refused("take(3)", x -> x.take(3), PianoCovers.NO_SUCH);
        Made.refused("pass(0)", x -> x.pass(0), PianoCovers.BAD_VALUE);
        Made.refused("carryOut()", PianoCovers::new, PianoCovers::carryOut, PianoCovers.BAD_TEXT);
        Made.refused("keeper(0)", Made::withFourKeepers, x -> x.keeper(0), PianoCovers.TOO_MANY);
        Made.refused("piano(2, 0)", x -> x.piano(2, 0), PianoCovers.NOT_POSSIBLE);
    }

    private static void rangesAndFirstValues() {
        int[][] rows = {{0, 12, 2}, {1, 50, 20}, {1, 20, 4}, {0, 20, 3}, {0, 50, 10}, {0, 100, 60}, {1, 20, 7}};
        for (int setting = 0; setting < rows.length; setting++) {
            int[] row = rows[setting];
            PianoCovers x = new PianoCovers();
            Due.due("first value of " + setting, x.count(10 + setting), row[2]);
            Due.due("below " + setting, x.set(setting, row[0] - 1), PianoCovers.BAD_VALUE);
            Due.due("above " + setting, x.set(setting, row[1] + 1), PianoCovers.BAD_VALUE);
            Due.due("the least of " + setting, x.set(setting, row[0]), row[2]);
            Due.due("the most of " + setting, x.set(setting, row[1]), row[0]);
        }
    }

    /** The call answers no error, and the street is another one behind it; undo brings the one before back. */
    private static void changes(String call, ToIntFunction<PianoCovers> change) {
        PianoCovers x = Made.rich();
        x.undo();
        String seen = Help.street(x);
        int before = x.count(18);
        Due.due(call + " is no error", change.applyAsInt(x) >= 0 ? 1 : 0, 1);
        Due.due(call + " changes something", Help.street(x).equals(seen) ? 0 : 1, 1);
        Due.due(call + " is recorded", x.count(18), before + 1);
        x.undo();
        Due.same(call + " is undone", Help.street(x), seen);
    }

    private static void changes() {
        changes("set", x -> x.set(PianoCovers.WET, 21));
        changes("rain", x -> x.rain(1));
        changes("piano", x -> x.piano(0, 0));
        changes("take", x -> x.take(2));
        changes("keeper", x -> x.keeper(0));
        changes("cover", x -> x.cover(9));
        changes("pass", x -> x.pass(1));
    }

    private static void whatThereIs() {
        BoundariesOfLooks.changesNothing("of", x -> x.of(2, 0));
        BoundariesOfLooks.changesNothing("ofKeeper", x -> x.ofKeeper(1, 0));
        BoundariesOfLooks.changesNothing("count", x -> x.count(1));
        BoundariesOfLooks.changesNothing("worst", PianoCovers::worst);
    }

    /** Only carrying out touches the street. */
    private static void texts() {
        staysAsItIs("put", x -> x.put(';'));
        staysAsItIs("wipe", PianoCovers::wipe);
        staysAsItIs("fault", PianoCovers::fault);
        PianoCovers x = Made.rich();
        Due.due("carryOut", x.carryOut(), 2);
        Due.due("a piano at 7, and what there was", x.count(1), 1 << 2 | 1 << 5 | 1 << 7 | 1 << 9);
        Due.due("a third keeper", x.ofKeeper(2, 0), 0);
    }

    private static void staysAsItIs(String call, Consumer<PianoCovers> text) {
        PianoCovers x = Made.rich();
        int before = x.count(18);
        text.accept(x);
        Due.same("the street behind " + call, Help.street(x), Help.street(Made.rich()));
        Due.due("the history behind " + call, x.count(18), before);
    }

    private static void undoAndSaving() {
        PianoCovers x = new PianoCovers();
        x.piano(3, 1);
        x.save(0);
        x.pass(1);
        Due.due("undo", x.undo(), 1);
        Due.due("the hour is undone", x.count(0), 0);
        x.take(3);
        x.save(1);
        Due.due("restore slot 0", x.restore(0), 1);
        Due.due("restore slot 1", x.restore(1), 0);
    }

    private static void placeOfTheWorst() {
        for (int place = 0; place < 12; place++) {
            PianoCovers x = new PianoCovers();
            x.piano(place, 0);
            x.rain(1);
            x.pass(1);
            for (int other = 0; other < 12; other++) {
                x.piano(other, 1);
            }
            Due.due("of twelve, " + place + " was rained on", x.worst(), place);
        }
    }

    /** A keeper two places off: the reasons go, one behind the other. */
    private static void whyUntilItIs() {
        PianoCovers x = new PianoCovers();
        x.piano(4, 0);
        Due.due("no cover", x.why(4), 1);
        x.cover(4);
        Due.due("no rain ahead", x.why(4), 2);
        x.rain(Help.hour(0, 1, 2, 3));
        Due.due("no keeper", x.why(4), 3);
        x.keeper(2);
        Due.due("none at its place", x.why(4), 4);
        x.pass(2);
        Due.due("the keeper is there, and will cover it in this hour", x.why(4), 5);
        x.pass(1);
        Due.due("it is covered", x.why(4), 0);
        x.pass(2);
        Due.due("it was opened behind the rain", x.why(4), 2);
    }

    /** What is told is how many hours pass until it rains, from each hour of the day. */
    private static void hoursUntilRain() {
        PianoCovers x = new PianoCovers();
        x.rain(Help.hour(5, 6, 20));
        for (int hour = 0; hour < 24; hour++) {
            int due = hour <= 5 ? 5 - hour : hour == 6 ? 0 : hour <= 20 ? 20 - hour : 29 - hour;
            Due.due("in hour " + hour, x.rainIn(), due);
            Due.due("it rains now, in hour " + hour, x.count(9), due == 0 ? 1 : 0);
            x.pass(1);
        }
    }
}
