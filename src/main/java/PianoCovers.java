/** Pianos in streets that are covered ahead of the rain. The document's promises say what each call does. */
public final class PianoCovers {
    public static final int NO_SUCH = -1, BAD_VALUE = -2, BAD_TEXT = -3, TOO_MANY = -4, NOT_POSSIBLE = -5, NONE = -6;
    public static final int WARN = 0, WET = 1, DRY = 2, FALL = 3, PLAY = 4, TUNE = 5, THIEF = 6;

    private static final int SETTINGS = 7;
    private static final int[] LEAST_SETTING = {0, 1, 1, 0, 0, 0, 1};
    private static final int[] MOST_SETTING = {12, 50, 20, 20, 50, 100, 20};
    private static final int[] FIRST_SETTING = {2, 20, 4, 3, 10, 60, 7};

    private static final int PLACES = 12;
    private static final int MOST_KEEPERS = 4;
    private static final int HOURS_OF_DAY = 24;
    private static final int ALL_HOURS = 16777215;
    private static final int MOST_HOURS = 9999;
    private static final int MOST_PASSED = 99;
    private static final int MOST_FORETOLD = 96;
    private static final int MOST_COMPARED = 48;
    private static final int FULL = 100;
    private static final int TOO_DAMP_TO_PLAY = 50;
    private static final int TUNED_BY = 10;

    private static final int MOST_NUMBER = 99;
    private static final int MOST_HOUR = 23;
    private static final int PAD_SIZE = 80;
    private static final int CHARACTERS_A_CALL = 8;
    private static final int FIRST_CODE = 33;
    private static final int LAST_CODE = 126;

    private static final int HISTORY = 6;
    private static final int SLOTS = 2;

    private final Street now = new Street();
    /** The state ahead of the call that runs; it goes into the history only if the call returns no error. */
    private final Street before = new Street();
    /** Where what-if calls let hours pass. */
    private final Street trial = new Street();
    private final Street[] history = new Street[HISTORY];
    private int undoable = 0;
    private final Street[] slots = new Street[SLOTS];
    private final boolean[] saved = new boolean[SLOTS];
    private final Pad pad = new Pad();

    public PianoCovers() {
        for (int i = 0; i < HISTORY; i++) {
            history[i] = new Street();
        }
        for (int i = 0; i < SLOTS; i++) {
            slots[i] = new Street();
        }
    }

    // ---- changes

    public int set(int setting, int value) {
        copy(now, before);
        return recorded(now.changeSetting(setting, value));
    }

    public int rain(int hours) {
        copy(now, before);
        return recorded(now.changeRain(hours));
    }

    public int piano(int place, int cover) {
        copy(now, before);
        return recorded(now.addPiano(place, cover));
    }

    public int take(int place) {
        copy(now, before);
        return recorded(now.removePiano(place));
    }

    public int keeper(int place) {
        copy(now, before);
        return recorded(now.hireKeeper(place));
    }

    public int cover(int place) {
        copy(now, before);
        return recorded(now.layCover(place));
    }

    public int pass(int hours) {
        copy(now, before);
        return recorded(now.passCounted(hours));
    }

    // ---- what there is

    public int of(int place, int what) {
        if (!has(now.pianos, place)) {
            return NO_SUCH;
        }
        switch (what) {
            case 0: return now.pitch[place];
            case 1: return now.damp[place];
            case 2: return now.coverAt(place);
            case 3: return now.earned[place];
            case 4: return now.rainedOn[place];
            case 5: return now.keepersAt(place);
            default: return BAD_VALUE;
        }
    }

    public int ofKeeper(int keeper, int what) {
        if (keeper < 0 || keeper >= now.keepers || keeper >= MOST_KEEPERS) {
            return NO_SUCH;
        }
        switch (what) {
            case 0: return now.keeperAt[keeper];
            case 1: return now.timesCovered[keeper];
            case 2: return now.timesOpened[keeper];
            case 3: return now.timesTuned[keeper];
            case 4: return now.placesWent[keeper];
            default: return BAD_VALUE;
        }
    }

    public int count(int what) {
        if (what >= 10 && what < 10 + SETTINGS) {
            return now.settings[what - 10];
        }
        switch (what) {
            case 0: return now.hours;
            case 1: return now.pianos;
            case 2: return now.covered;
            case 3: return now.lying;
            case 4: return now.keepers;
            case 5: return now.coins;
            case 6: return now.stolen;
            case 7: return now.rainHours;
            case 8: return now.rainIsAhead() ? 1 : 0;
            case 9: return now.rainsAfter(0) ? 1 : 0;
            case 17: return pad.length;
            case 18: return undoable;
            default: return BAD_VALUE;
        }
    }

    public int worst() {
        int found = NONE;
        int least = 0;
        for (int place = 0; place < PLACES; place++) {
            int worth = now.pitch[place] - now.damp[place];
            if (has(now.pianos, place) && (found == NONE || worth < least)) {
                found = place;
                least = worth;
            }
        }
        return found;
    }

    // ---- what if; nothing changes (the bound of hours does not matter)

    public int why(int place) {
        if (!has(now.pianos, place)) {
            return NO_SUCH;
        }
        if (has(now.covered, place)) {
            return 0;
        }
        if (!has(now.lying, place)) {
            return 1;
        }
        if (!now.rainIsAhead()) {
            return 2;
        }
        if (now.keepers == 0) {
            return 3;
        }
        return now.keepersAt(place) == 0 ? 4 : 5;
    }

    public int rainIn() {
        return now.hoursUntilRain();
    }

    public int coveredIn(int place) {
        if (!has(now.pianos, place)) {
            return NO_SUCH;
        }
        copy(now, trial);
        for (int hours = 0; hours < MOST_FORETOLD; hours++) {
            if (has(trial.covered, place)) {
                return hours;
            }
            trial.passHours(1);
        }
        return has(trial.covered, place) ? MOST_FORETOLD : NONE;
    }

    public int willBeWet(int hours) {
        if (hours < 1 || hours > MOST_PASSED) {
            return BAD_VALUE;
        }
        copy(now, trial);
        trial.passHours(hours);
        int wet = 0;
        for (int place = 0; place < PLACES; place++) {
            if (trial.rainedOn[place] > now.rainedOn[place]) {
                wet |= 1 << place;
            }
        }
        return wet;
    }

    public int bestPlace(int hours, int what) {
        if (hours < 1 || hours > MOST_COMPARED || what < 0 || what > 1) {
            return BAD_VALUE;
        }
        int best = NONE;
        int most = 0;
        for (int place = 0; place < PLACES; place++) {
            int coins = coinsWithOneMoreAt(place, hours);
            if (best == NONE || coins > most) {
                best = place;
                most = coins;
            }
        }
        return what == 0 ? best : most;
    }

    private int coinsWithOneMoreAt(int place, int hours) {
        copy(now, trial);
        trial.addKeeper(place);
        return trial.passHours(hours);
    }

    // ---- texts

    public int put(long characters) {
        int many = charactersIn(characters);
        if (many == 0) {
            return BAD_VALUE;
        }
        if (pad.length + many > PAD_SIZE) {
            return TOO_MANY;
        }
        for (int behind = many - 1; behind >= 0; behind--) {
            pad.append((char) (characters >>> (8 * behind) & 255));
        }
        return pad.length;
    }

    /** How many characters the number holds; 0 if it is not a number of characters. */
    private static int charactersIn(long characters) {
        long rest = characters;
        int many = 0;
        while (many < CHARACTERS_A_CALL && (rest & 255) != 0) {
            long code = rest & 255;
            if (code < FIRST_CODE || code > LAST_CODE) {
                return 0;
            }
            rest >>>= 8;
            many++;
        }
        return rest == 0 ? many : 0;
    }

    public int wipe() {
        int length = pad.length;
        pad.clear();
        return length;
    }

    public int fault() {
        return pad.findFault();
    }

    public int carryOut() {
        if (pad.findFault() != NONE) {
            return BAD_TEXT;
        }
        copy(now, before);
        pad.rewind();
        int carriedOut = 0;
        while (carriedOut < PAD_SIZE && pad.more && pad.readOrder() && answerToOrder() >= 0) {
            carriedOut++;
        }
        pad.clear();
        return recorded(carriedOut);
    }

    private int answerToOrder() {
        switch (pad.kind) {
            case 'p': return now.addPiano(pad.number, pad.cover);
            case 'k': return now.hireKeeper(pad.number);
            case 'c': return now.layCover(pad.number);
            case 'r': return now.changeRain(pad.hours);
            case 't': return now.passCounted(pad.number);
            default: return BAD_TEXT;
        }
    }

    // ---- undo, saving

    public int undo() {
        if (undoable < 1 || undoable > HISTORY) {
            return NOT_POSSIBLE;
        }
        undoable--;
        copy(history[undoable], now);
        return undoable;
    }

    public int save(int slot) {
        if (slot < 0 || slot >= SLOTS) {
            return BAD_VALUE;
        }
        copy(now, slots[slot]);
        saved[slot] = true;
        return Integer.bitCount(now.pianos);
    }

    public int restore(int slot) {
        if (slot < 0 || slot >= SLOTS) {
            return BAD_VALUE;
        }
        if (!saved[slot]) {
            return NOT_POSSIBLE;
        }
        copy(now, before);
        copy(slots[slot], now);
        return recorded(Integer.bitCount(now.pianos));
    }

    /** Passes the answer of a change on, and records the state before it unless the answer is an error. */
    private int recorded(int answer) {
        if (answer < 0) {
            return answer;
        }
        if (undoable >= HISTORY) {
            dropOldest();
        }
        if (undoable >= 0 && undoable < HISTORY) {
            copy(before, history[undoable]);
            undoable++;
        }
        return answer;
    }

    /** The oldest one goes to the end, so that its rows are used again. */
    private void dropOldest() {
        Street oldest = history[0];
        for (int i = 1; i < HISTORY; i++) {
            history[i - 1] = history[i];
        }
        history[HISTORY - 1] = oldest;
        undoable = HISTORY - 1;
    }

    private static boolean isPlace(int place) {
        return place >= 0 && place < PLACES;
    }

    private static boolean has(int places, int place) {
        return place >= 0 && place < PLACES && (places >>> place & 1) == 1;
    }

    private static void copy(Street from, Street to) {
        if (from == null || to == null) {
            return;
        }
        to.pianos = from.pianos;
        to.lying = from.lying;
        to.covered = from.covered;
        to.keepers = from.keepers;
        to.rainHours = from.rainHours;
        to.hours = from.hours;
        to.coins = from.coins;
        to.stolen = from.stolen;
        System.arraycopy(from.settings, 0, to.settings, 0, SETTINGS);
        System.arraycopy(from.pitch, 0, to.pitch, 0, PLACES);
        System.arraycopy(from.damp, 0, to.damp, 0, PLACES);
        System.arraycopy(from.earned, 0, to.earned, 0, PLACES);
        System.arraycopy(from.rainedOn, 0, to.rainedOn, 0, PLACES);
        System.arraycopy(from.keeperAt, 0, to.keeperAt, 0, MOST_KEEPERS + 1);
        System.arraycopy(from.timesCovered, 0, to.timesCovered, 0, MOST_KEEPERS + 1);
        System.arraycopy(from.timesOpened, 0, to.timesOpened, 0, MOST_KEEPERS + 1);
        System.arraycopy(from.timesTuned, 0, to.timesTuned, 0, MOST_KEEPERS + 1);
        System.arraycopy(from.placesWent, 0, to.placesWent, 0, MOST_KEEPERS + 1);
    }

    /** All that undo and the slots bring back. The methods that answer an error change nothing then. */
    private static final class Street {
        private final int[] settings = new int[SETTINGS];

        /** Sets of places; those whose cover lies there and those that are covered have no place in common. */
        private int pianos = 0;
        private int lying = 0;
        private int covered = 0;

        private final int[] pitch = new int[PLACES];
        private final int[] damp = new int[PLACES];
        private final int[] earned = new int[PLACES];
        private final int[] rainedOn = new int[PLACES];

        private int keepers = 0;
        /** One row more than there may be keepers: bestPlace asks for one more also if there are 4. */
        private final int[] keeperAt = new int[MOST_KEEPERS + 1];
        private final int[] timesCovered = new int[MOST_KEEPERS + 1];
        private final int[] timesOpened = new int[MOST_KEEPERS + 1];
        private final int[] timesTuned = new int[MOST_KEEPERS + 1];
        private final int[] placesWent = new int[MOST_KEEPERS + 1];

        private int rainHours = 0;
        private int hours = 0;
        private int coins = 0;
        private int stolen = 0;

        private Street() {
            System.arraycopy(FIRST_SETTING, 0, settings, 0, SETTINGS);
        }

        // ---- changes by a caller or an order

        private int changeSetting(int setting, int value) {
            if (setting < 0 || setting >= SETTINGS) {
                return BAD_VALUE;
            }
            if (value < LEAST_SETTING[setting] || value > MOST_SETTING[setting]) {
                return BAD_VALUE;
            }
            int previous = settings[setting];
            settings[setting] = value;
            return previous;
        }

        private int changeRain(int set) {
            if (set < 0 || set > ALL_HOURS) {
                return BAD_VALUE;
            }
            int previous = rainHours;
            rainHours = set;
            return previous;
        }

        private int addPiano(int place, int withCover) {
            if (!isPlace(place)) {
                return NO_SUCH;
            }
            if (withCover != 0 && withCover != 1) {
                return BAD_VALUE;
            }
            if (has(pianos, place)) {
                return NOT_POSSIBLE;
            }
            pianos |= 1 << place;
            lying |= withCover << place;
            pitch[place] = FULL;
            damp[place] = 0;
            earned[place] = 0;
            rainedOn[place] = 0;
            return Integer.bitCount(pianos);
        }

        private int removePiano(int place) {
            if (!has(pianos, place)) {
                return NO_SUCH;
            }
            int others = ~(1 << place);
            pianos &= others;
            lying &= others;
            covered &= others;
            return Integer.bitCount(pianos);
        }

        private int hireKeeper(int place) {
            if (!isPlace(place)) {
                return NO_SUCH;
            }
            if (keepers >= MOST_KEEPERS) {
                return TOO_MANY;
            }
            addKeeper(place);
            return keepers - 1;
        }

        private void addKeeper(int place) {
            if (keepers < 0 || keepers > MOST_KEEPERS) {
                return;
            }
            keeperAt[keepers] = place;
            timesCovered[keepers] = 0;
            timesOpened[keepers] = 0;
            timesTuned[keepers] = 0;
            placesWent[keepers] = 0;
            keepers++;
        }

        private int layCover(int place) {
            if (!has(pianos, place)) {
                return NO_SUCH;
            }
            if (has(lying | covered, place)) {
                return NOT_POSSIBLE;
            }
            lying |= 1 << place;
            return Integer.bitCount(lying | covered);
        }

        private int passCounted(int many) {
            if (many < 1 || many > MOST_PASSED) {
                return BAD_VALUE;
            }
            if (hours + many > MOST_HOURS) {
                return NOT_POSSIBLE;
            }
            return passHours(many);
        }

        // ---- looking

        private int coverAt(int place) {
            if (has(covered, place)) {
                return 2;
            }
            return has(lying, place) ? 1 : 0;
        }

        private int keepersAt(int place) {
            int there = 0;
            for (int keeper = 0; keeper < keepers && keeper <= MOST_KEEPERS; keeper++) {
                if (keeperAt[keeper] == place) {
                    there++;
                }
            }
            return there;
        }

        private boolean rainsAfter(int later) {
            return (rainHours >>> ((hours + later) % HOURS_OF_DAY) & 1) == 1;
        }

        private int hoursUntilRain() {
            for (int later = 0; later < HOURS_OF_DAY; later++) {
                if (rainsAfter(later)) {
                    return later;
                }
            }
            return NONE;
        }

        private boolean rainIsAhead() {
            for (int later = 0; later <= settings[WARN] && later < HOURS_OF_DAY; later++) {
                if (rainsAfter(later)) {
                    return true;
                }
            }
            return false;
        }

        // ---- hours

        /** Lets hours pass without their bound, and returns the coins that they brought. */
        private int passHours(int many) {
            int coinsBefore = coins;
            for (int i = 0; i < many; i++) {
                letKeepersAct();
                if (rainsAfter(0)) {
                    letRainFall();
                } else {
                    letPianosDry();
                    letPianosBePlayed();
                }
                letThievesCome();
                hours++;
            }
            return coins - coinsBefore;
        }

        private void letKeepersAct() {
            boolean ahead = rainIsAhead();
            int chosen = 0;
            for (int keeper = 0; keeper < keepers && keeper <= MOST_KEEPERS; keeper++) {
                int goal = nearest((ahead ? lying : covered) & ~chosen, keeperAt[keeper]);
                boolean tunes = goal == NONE;
                if (tunes) {
                    goal = nearest(outOfTune() & ~chosen, keeperAt[keeper]);
                }
                if (goal == NONE) {
                    continue;
                }
                chosen |= 1 << goal;
                if (keeperAt[keeper] != goal) {
                    goTowards(keeper, goal);
                } else if (tunes) {
                    tune(keeper, goal);
                } else if (ahead) {
                    putCoverOn(keeper, goal);
                } else {
                    takeCoverOff(keeper, goal);
                }
            }
        }

        /** The place of the set that is nearest, of two the lower one; NONE if the set is empty. */
        private static int nearest(int places, int from) {
            if (places == 0) {
                return NONE;
            }
            for (int away = 0; away < PLACES; away++) {
                if (has(places, from - away)) {
                    return from - away;
                }
                if (has(places, from + away)) {
                    return from + away;
                }
            }
            return NONE;
        }

        private int outOfTune() {
            int places = 0;
            for (int place = 0; place < PLACES; place++) {
                if (has(openOnes(), place) && pitch[place] < settings[TUNE]) {
                    places |= 1 << place;
                }
            }
            return places;
        }

        private int openOnes() {
            return pianos & ~covered;
        }

        private void goTowards(int keeper, int goal) {
            keeperAt[keeper] += keeperAt[keeper] < goal ? 1 : -1;
            placesWent[keeper]++;
        }

        private void tune(int keeper, int place) {
            pitch[place] = Math.min(FULL, pitch[place] + TUNED_BY);
            timesTuned[keeper]++;
        }

        private void putCoverOn(int keeper, int place) {
            lying &= ~(1 << place);
            covered |= 1 << place;
            timesCovered[keeper]++;
        }

        private void takeCoverOff(int keeper, int place) {
            covered &= ~(1 << place);
            lying |= 1 << place;
            timesOpened[keeper]++;
        }

        private void letRainFall() {
            for (int place = 0; place < PLACES; place++) {
                if (has(openOnes(), place)) {
                    damp[place] = Math.min(FULL, damp[place] + settings[WET]);
                    pitch[place] = Math.max(0, pitch[place] - settings[FALL]);
                    rainedOn[place]++;
                }
            }
        }

        private void letPianosDry() {
            for (int place = 0; place < PLACES; place++) {
                if (has(openOnes(), place)) {
                    damp[place] = Math.max(0, damp[place] - settings[DRY]);
                }
            }
        }

        private void letPianosBePlayed() {
            int hour = hours % HOURS_OF_DAY;
            if (hour < 8 || hour > 21) {
                return;
            }
            for (int place = 0; place < PLACES; place++) {
                if (has(openOnes(), place) && damp[place] < TOO_DAMP_TO_PLAY) {
                    int brought = settings[PLAY] * pitch[place] / FULL;
                    earned[place] += brought;
                    coins += brought;
                    pitch[place] = Math.max(0, pitch[place] - 1);
                }
            }
        }

        private void letThievesCome() {
            int hour = hours % HOURS_OF_DAY;
            int thief = settings[THIEF];
            boolean night = hour >= 22 || hour <= 5;
            if (!night || thief < 1) {
                return;
            }
            for (int place = 0; place < PLACES; place++) {
                boolean comes = (7 * hours + 3 * place) % thief == 0;
                if (comes && has(lying, place) && keepersAt(place) == 0) {
                    lying &= ~(1 << place);
                    stolen++;
                }
            }
        }
    }

    /** The text of orders, and a reader that goes through it. */
    private static final class Pad {
        private final char[] text = new char[PAD_SIZE];
        private int length = 0;
        private int at = 0;

        /** The order that was read last, and whether one has to follow. */
        private char kind = 0;
        private int number = 0;
        private int cover = 0;
        private int hours = 0;
        private boolean more = false;

        private void append(char character) {
            if (length >= 0 && length < PAD_SIZE) {
                text[length] = character;
                length++;
            }
        }

        private void clear() {
            length = 0;
        }

        private void rewind() {
            at = 0;
            more = true;
        }

        private int findFault() {
            rewind();
            for (int orders = 0; orders < PAD_SIZE && more; orders++) {
                if (!readOrder()) {
                    return at;
                }
            }
            return NONE;
        }

        /** Reads an order and the ';' behind it; if it returns false, the reader stands at the fault. */
        private boolean readOrder() {
            number = 0;
            cover = 0;
            hours = 0;
            more = false;
            kind = next();
            if (!readBody()) {
                return false;
            }
            more = skip(';');
            return more || at == length;
        }

        private boolean readBody() {
            switch (kind) {
                case 'p':
                    at++;
                    if (!readNumber(MOST_NUMBER)) {
                        return false;
                    }
                    cover = skip('c') ? 1 : 0;
                    return true;
                case 'k':
                case 'c':
                case 't':
                    at++;
                    return readNumber(MOST_NUMBER);
                case 'r':
                    at++;
                    return skip('-') || readHours();
                default:
                    return false;
            }
        }

        private boolean readHours() {
            for (int read = 0; read < PAD_SIZE; read++) {
                if (!readNumber(MOST_HOUR)) {
                    return false;
                }
                hours |= 1 << number;
                if (!skip(',')) {
                    return true;
                }
            }
            return false;
        }

        /** Reads the digits that can stand; one too many is left, and nothing that may follow takes it. */
        private boolean readNumber(int most) {
            if (!isDigit(next())) {
                return false;
            }
            number = next() - '0';
            at++;
            boolean longer = number > 0 && isDigit(next());
            if (longer && 10 * number + next() - '0' <= most) {
                number = 10 * number + next() - '0';
                at++;
            }
            return true;
        }

        private static boolean isDigit(char character) {
            return character >= '0' && character <= '9';
        }

        private boolean skip(char character) {
            if (next() != character) {
                return false;
            }
            at++;
            return true;
        }

        /** The character at which the reader stands; behind the text 0, which no text holds. */
        private char next() {
            return at >= 0 && at < length && at < PAD_SIZE ? text[at] : 0;
        }
    }
}
