import java.util.ArrayList;
import java.util.List;
import java.util.regex.Matcher;
import java.util.regex.Pattern;

/**
 * The document once more, written another way: objects that are copied whole, a pattern for the texts.
 * It is slow and takes room, and serves only to be compared with.
 */
final class PlainStreet {
    static final class Piano implements Cloneable {
        int pitch = 100;
        int damp = 0;
        int cover;
        int coins = 0;
        int wetHours = 0;

        Piano(int cover) {
            this.cover = cover;
        }

        Piano copy() {
            Piano other = new Piano(cover);
            other.pitch = pitch;
            other.damp = damp;
            other.coins = coins;
            other.wetHours = wetHours;
            return other;
        }
    }

    static final class Keeper {
        /** Place, covered, opened, tuned, went: as ofKeeper() asks for them. */
        int[] told = new int[5];
    }

    static final class State {
        Piano[] pianos = new Piano[12];
        List<Keeper> keepers = new ArrayList<>();
        boolean[] rains = new boolean[24];
        int[] settings = {2, 20, 4, 3, 10, 60, 7};
        int hours = 0;
        int coins = 0;
        int stolen = 0;

        State copy() {
            State other = new State();
            for (int i = 0; i < 12; i++) {
                other.pianos[i] = pianos[i] == null ? null : pianos[i].copy();
            }
            for (Keeper keeper : keepers) {
                Keeper same = new Keeper();
                same.told = keeper.told.clone();
                other.keepers.add(same);
            }
            other.rains = rains.clone();
            other.settings = settings.clone();
            other.hours = hours;
            other.coins = coins;
            other.stolen = stolen;
            return other;
        }
    }

    private static final int[][] RANGES = {{0, 12}, {1, 50}, {1, 20}, {0, 20}, {0, 50}, {0, 100}, {1, 20}};
    private static final String NUMBER = "(?:0|[1-9][0-9]?)";
    private static final String HOUR = "(?:1[0-9]?|2[0-3]?|[03-9])";
    private static final String ORDER = "(?:p" + NUMBER + "c?|[kct]" + NUMBER + "|r" + HOUR + "(?:," + HOUR + ")*|r-)";
    private static final Pattern TEXT = Pattern.compile(ORDER + "(?:;" + ORDER + ")*");

    State s = new State();
    final List<State> history = new ArrayList<>();
    final State[] slots = new State[2];
    String pad = "";

    private int change(State before, int answer) {
        if (answer >= 0) {
            history.add(before);
            if (history.size() > 6) {
                history.remove(0);
            }
        } else {
            s = before;
        }
        return answer;
    }

    int set(int setting, int value) {
        State before = s.copy();
        if (setting < 0 || setting > 6 || value < RANGES[setting][0] || value > RANGES[setting][1]) {
            return -2;
        }
        int was = s.settings[setting];
        s.settings[setting] = value;
        return change(before, was);
    }

    int rain(int hours) {
        return change(s.copy(), doRain(hours));
    }

    private int doRain(int hours) {
        if (hours < 0 || hours > 0xffffff) {
            return -2;
        }
        int was = rainSet();
        for (int i = 0; i < 24; i++) {
            s.rains[i] = (hours & 1 << i) != 0;
        }
        return was;
    }

    private int rainSet() {
        int set = 0;
        for (int i = 0; i < 24; i++) {
            set += s.rains[i] ? 1 << i : 0;
        }
        return set;
    }

    private Piano at(int place) {
        return place < 0 || place > 11 ? null : s.pianos[place];
    }

    private int set(int cover) {
        int set = 0;
        for (int i = 0; i < 12; i++) {
            if (s.pianos[i] != null && (cover == -1 || s.pianos[i].cover == cover)) {
                set += 1 << i;
            }
        }
        return set;
    }

    private int pianos() {
        return Integer.bitCount(set(-1));
    }

    int piano(int place, int cover) {
        return change(s.copy(), doPiano(place, cover));
    }

    private int doPiano(int place, int cover) {
        if (place < 0 || place > 11) {
            return -1;
        }
        if (cover >> 1 != 0) {
            return -2;
        }
        if (at(place) != null) {
            return -5;
        }
        s.pianos[place] = new Piano(cover);
        return pianos();
    }

    int take(int place) {
        if (at(place) == null) {
            return -1;
        }
        State before = s.copy();
        s.pianos[place] = null;
        return change(before, pianos());
    }

    int keeper(int place) {
        return change(s.copy(), doKeeper(place));
    }

    private int doKeeper(int place) {
        if (place < 0 || place > 11) {
            return -1;
        }
        if (s.keepers.size() == 4) {
            return -4;
        }
        comes(place);
        return s.keepers.size() - 1;
    }

    private void comes(int place) {
        Keeper keeper = new Keeper();
        keeper.told[0] = place;
        s.keepers.add(keeper);
    }

    int cover(int place) {
        return change(s.copy(), doCover(place));
    }

    private int doCover(int place) {
        if (at(place) == null) {
            return -1;
        }
        if (at(place).cover != 0) {
            return -5;
        }
        at(place).cover = 1;
        return pianos() - Integer.bitCount(set(0));
    }

    int pass(int hours) {
        return change(s.copy(), doPass(hours));
    }

    private int doPass(int hours) {
        if (hours < 1 || hours > 99) {
            return -2;
        }
        if (s.hours > 9999 - hours) {
            return -5;
        }
        int coins = 0;
        for (int i = 0; i < hours; i++) {
            coins += hour();
        }
        return coins;
    }

    private boolean rainAhead() {
        for (int i = s.hours; i <= s.hours + s.settings[0]; i++) {
            if (s.rains[i % 24]) {
                return true;
            }
        }
        return false;
    }

    private int hour() {
        keepersAct();
        int hour = s.hours % 24;
        int coins = 0;
        for (Piano piano : s.pianos) {
            if (piano == null || piano.cover == 2) {
                continue;
            }
            if (s.rains[hour]) {
                piano.damp = Math.min(100, piano.damp + s.settings[1]);
                piano.pitch = Math.max(0, piano.pitch - s.settings[3]);
                piano.wetHours++;
            } else {
                piano.damp = Math.max(0, piano.damp - s.settings[2]);
                if (hour >= 8 && hour <= 21 && piano.damp < 50) {
                    int brings = s.settings[4] * piano.pitch / 100;
                    piano.coins += brings;
                    coins += brings;
                    piano.pitch -= piano.pitch > 0 ? 1 : 0;
                }
            }
        }
        s.coins += coins;
        if (hour > 21 || hour < 6) {
            for (int place = 0; place < 12; place++) {
                Piano piano = s.pianos[place];
                if (piano != null && piano.cover == 1 && keepersAt(place) == 0
                        && (7 * s.hours + 3 * place) % s.settings[6] == 0) {
                    piano.cover = 0;
                    s.stolen++;
                }
            }
        }
        s.hours++;
        return coins;
    }

    private int keepersAt(int place) {
        return (int) s.keepers.stream().filter(keeper -> keeper.told[0] == place).count();
    }

    private void keepersAct() {
        boolean ahead = rainAhead();
        List<Integer> chosen = new ArrayList<>();
        for (Keeper keeper : s.keepers) {
            int cover = ahead ? 1 : 2;
            int goal = -1;
            int job = 0;
            for (int kind = 0; kind < 2 && goal < 0; kind++) {
                for (int place = 0; place < 12; place++) {
                    Piano piano = s.pianos[place];
                    if (piano == null || chosen.contains(place)) {
                        continue;
                    }
                    boolean wanted = kind == 0 ? piano.cover == cover
                        : piano.cover != 2 && piano.pitch < s.settings[5];
                    if (wanted && (goal < 0 || distance(keeper, place) < distance(keeper, goal))) {
                        goal = place;
                        job = kind;
                    }
                }
            }
            if (goal < 0) {
                continue;
            }
            chosen.add(goal);
            if (distance(keeper, goal) > 0) {
                keeper.told[0] += Integer.signum(goal - keeper.told[0]);
                keeper.told[4]++;
            } else if (job == 1) {
                s.pianos[goal].pitch = Math.min(100, s.pianos[goal].pitch + 10);
                keeper.told[3]++;
            } else {
                s.pianos[goal].cover = 3 - cover;
                keeper.told[ahead ? 1 : 2]++;
            }
        }
    }

    private static int distance(Keeper keeper, int place) {
        return Math.abs(keeper.told[0] - place);
    }

    int of(int place, int what) {
        Piano piano = at(place);
        if (piano == null) {
            return -1;
        }
        if (what < 0 || what > 5) {
            return -2;
        }
        return new int[] {piano.pitch, piano.damp, piano.cover, piano.coins, piano.wetHours, keepersAt(place)}[what];
    }

    int ofKeeper(int keeper, int what) {
        if (keeper < 0 || keeper >= s.keepers.size()) {
            return -1;
        }
        return what < 0 || what > 4 ? -2 : s.keepers.get(keeper).told[what];
    }

    int count(int what) {
        if (what < 0 || what > 18) {
            return -2;
        }
        int[] first = {s.hours, set(-1), set(2), set(1), s.keepers.size(), s.coins, s.stolen, rainSet(),
            rainAhead() ? 1 : 0, s.rains[s.hours % 24] ? 1 : 0};
        if (what < 10) {
            return first[what];
        }
        return what < 17 ? s.settings[what - 10] : what == 17 ? pad.length() : history.size();
    }

    int worst() {
        int worst = -6;
        for (int place = 11; place >= 0; place--) {
            Piano piano = s.pianos[place];
            if (piano != null && (worst == -6
                    || piano.pitch - piano.damp <= s.pianos[worst].pitch - s.pianos[worst].damp)) {
                worst = place;
            }
        }
        return worst;
    }

    int why(int place) {
        Piano piano = at(place);
        if (piano == null) {
            return -1;
        }
        if (piano.cover != 1) {
            return piano.cover == 2 ? 0 : 1;
        }
        if (!rainAhead()) {
            return 2;
        }
        return s.keepers.isEmpty() ? 3 : keepersAt(place) == 0 ? 4 : 5;
    }

    int rainIn() {
        for (int i = 0; i < 24; i++) {
            if (s.rains[(s.hours + i) % 24]) {
                return i;
            }
        }
        return -6;
    }

    int coveredIn(int place) {
        if (at(place) == null) {
            return -1;
        }
        State real = s;
        s = s.copy();
        int found = -6;
        for (int passed = 0; passed <= 96 && found == -6; passed++) {
            if (s.pianos[place].cover == 2) {
                found = passed;
            }
            hour();
        }
        s = real;
        return found;
    }

    int willBeWet(int hours) {
        if (hours < 1 || hours > 99) {
            return -2;
        }
        State real = s;
        s = s.copy();
        int wet = 0;
        for (int i = 0; i < hours; i++) {
            boolean rains = s.rains[s.hours % 24];
            hour();
            wet |= rains ? set(0) | set(1) : 0;
        }
        s = real;
        // A cover may be laid on or off only ahead of the rain of an hour, so what is open behind it was so in it.
        return wet;
    }

    int bestPlace(int hours, int what) {
        if (hours < 1 || hours > 48 || what >> 1 != 0) {
            return -2;
        }
        State real = s;
        int[] best = {-1, -1};
        for (int place = 0; place < 12; place++) {
            s = real.copy();
            comes(place);
            int coins = 0;
            for (int i = 0; i < hours; i++) {
                coins += hour();
            }
            if (coins > best[1]) {
                best = new int[] {place, coins};
            }
        }
        s = real;
        return best[what];
    }

    int put(long characters) {
        StringBuilder text = new StringBuilder();
        boolean ended = false;
        for (int i = 0; i < 8; i++) {
            int code = (int) (characters >>> 8 * i) & 255;
            if (code == 0) {
                ended = true;
            } else if (ended || code < 33 || code > 126) {
                return -2;
            } else {
                text.insert(0, (char) code);
            }
        }
        if (text.length() == 0) {
            return -2;
        }
        if (pad.length() + text.length() > 80) {
            return -4;
        }
        pad += text;
        return pad.length();
    }

    int wipe() {
        int length = pad.length();
        pad = "";
        return length;
    }

    int fault() {
        for (int end = 1; end <= pad.length(); end++) {
            Matcher matcher = TEXT.matcher(pad.substring(0, end));
            if (!matcher.matches() && !matcher.hitEnd()) {
                return end - 1;
            }
        }
        return TEXT.matcher(pad).matches() ? -6 : pad.length();
    }

    int carryOut() {
        if (fault() != -6) {
            return -3;
        }
        State before = s.copy();
        int done = 0;
        for (String order : pad.split(";")) {
            if (carryOut(order.charAt(0), order.substring(1)) < 0) {
                break;
            }
            done++;
        }
        pad = "";
        return change(before, done);
    }

    private int carryOut(char kind, String rest) {
        if (kind == 'r') {
            int set = 0;
            for (String hour : rest.split(",")) {
                set |= hour.equals("-") ? 0 : 1 << Integer.parseInt(hour);
            }
            return doRain(set);
        }
        boolean covered = rest.endsWith("c");
        int number = Integer.parseInt(covered ? rest.substring(0, rest.length() - 1) : rest);
        switch (kind) {
            case 'p': return doPiano(number, covered ? 1 : 0);
            case 'k': return doKeeper(number);
            case 'c': return doCover(number);
            default: return doPass(number);
        }
    }

    int undo() {
        if (history.isEmpty()) {
            return -5;
        }
        s = history.remove(history.size() - 1);
        return history.size();
    }

    int save(int slot) {
        if (slot < 0 || slot > 1) {
            return -2;
        }
        slots[slot] = s.copy();
        return pianos();
    }

    int restore(int slot) {
        if (slot < 0 || slot > 1) {
            return -2;
        }
        if (slots[slot] == null) {
            return -5;
        }
        State before = s;
        s = slots[slot].copy();
        return change(before, pianos());
    }
}
