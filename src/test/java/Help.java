/** What several tests need: texts as numbers, and all that can be seen of an object. */
final class Help {
    static final int ALL_HOURS = (1 << 24) - 1;
    static final int[] ODD = {Integer.MIN_VALUE, -7, -1, Integer.MAX_VALUE};

    private Help() { }

    static long packed(String text) {
        long number = 0;
        for (int i = 0; i < text.length(); i++) {
            number = number << 8 | text.charAt(i);
        }
        return number;
    }

    /** Appends a text of any length to the pad, and returns the last answer. */
    static int write(PianoCovers x, String text) {
        int answer = 0;
        for (int i = 0; i < text.length(); i += 8) {
            answer = x.put(packed(text.substring(i, Math.min(text.length(), i + 8))));
        }
        return answer;
    }

    /** All that undo brings back, as far as it can be asked; what is not there is not asked, to spare calls. */
    static String street(PianoCovers x) {
        StringBuilder seen = new StringBuilder();
        for (int what = 0; what <= 16; what++) {
            seen.append(x.count(what)).append(' ');
        }
        int pianos = x.count(1);
        for (int place = 0; place < 12; place++) {
            for (int what = 0; what <= 5 && (pianos >> place & 1) == 1; what++) {
                seen.append(x.of(place, what)).append(' ');
            }
        }
        int keepers = x.count(4);
        for (int keeper = 0; keeper < keepers; keeper++) {
            for (int what = 0; what <= 4; what++) {
                seen.append(x.ofKeeper(keeper, what)).append(' ');
            }
        }
        return seen.toString();
    }

    /** The street, the pad's length and fault, and the history's length. */
    static String all(PianoCovers x) {
        return street(x) + x.count(17) + ' ' + x.fault() + ' ' + x.count(18);
    }

    static int hour(int... hours) {
        int set = 0;
        for (int hour : hours) {
            set |= 1 << hour;
        }
        return set;
    }

    /** Lets hours pass in as many calls as it takes, and returns the coins of them all. */
    static int passAll(PianoCovers x, int hours) {
        int coins = 0;
        for (int left = hours; left > 0; left -= 99) {
            coins += x.pass(Math.min(99, left));
        }
        return coins;
    }
}
