import java.util.Random;

/** Runs of calls, the same ones each time, answered by the program and by PlainStreet alike. */
final class ModelTest {
    private static final int RUNS = 4000;
    /** What an object answers behind its 512th call is free; a look at all takes 111 calls, a step at most ten. */
    private static final int MOST_CALLS = 512 - 111 - 10;
    private static final int TO_THE_BOUND = 100;

    private final Random random;
    private final PianoCovers real = new PianoCovers();
    private final PlainStreet plain = new PlainStreet();
    private String call = "";
    private int calls = 0;

    private ModelTest(long seed) {
        random = new Random(seed);
    }

    public static void main(String[] args) {
        for (int run = 0; run < RUNS && Due.failures() == 0; run++) {
            new ModelTest(run).run("run " + run, run % 10 == 0);
        }
        Due.finish("ModelTest");
    }

    /** Runs end at different lengths, so that the look at all comes behind all kinds of calls. */
    private void run(String name, boolean nearTheBound) {
        int pace = random.nextInt(3);
        for (int i = 0; nearTheBound && i < TO_THE_BOUND; i++) {
            told("pass", 99, 0, real.pass(99), plain.pass(99));
        }
        int last = calls + 1 + random.nextInt(MOST_CALLS - calls);
        while (calls < last && Due.failures() == 0) {
            int[] answers = step(pace);
            Due.due(name + ", call " + calls + ": " + call, answers[0], answers[1]);
        }
        lookAtAll(name + ", behind call " + calls + ": " + call);
    }

    private void lookAtAll(String name) {
        for (int what = 0; what <= 18; what++) {
            Due.due(name + ": count(" + what + ")", real.count(what), plain.count(what));
        }
        for (int place = 0; place < 12; place++) {
            for (int what = 0; what <= 5; what++) {
                Due.due(name + ": of(" + place + ", " + what + ")", real.of(place, what), plain.of(place, what));
            }
        }
        for (int keeper = 0; keeper < 4; keeper++) {
            for (int what = 0; what <= 4; what++) {
                Due.due(name + ": ofKeeper(" + keeper + ", " + what + ")",
                    real.ofKeeper(keeper, what), plain.ofKeeper(keeper, what));
            }
        }
    }

    /** Mostly a number of the range, now and then one beside it. */
    private int number(int least, int most) {
        switch (random.nextInt(24)) {
            case 0: return least - 1;
            case 1: return most + 1;
            case 2: return random.nextInt();
            case 3: return least;
            case 4: return most;
            default: return least + random.nextInt(most - least + 1);
        }
    }

    private int[] step(int pace) {
        int which = random.nextInt(40);
        if (which < 16) {
            return change(which, pace);
        }
        return which < 28 ? look(which - 16) : text(which - 28);
    }

    private int[] change(int which, int pace) {
        int a;
        int b;
        switch (which) {
            case 0:
                a = number(0, 6);
                b = number(0, new int[] {12, 50, 20, 20, 50, 100, 20}[Math.floorMod(a, 7)]);
                return told("set", a, b, real.set(a, b), plain.set(a, b));
            case 1:
                a = random.nextInt(4) == 0 ? number(0, Help.ALL_HOURS)
                    : Help.hour(random.nextInt(24), random.nextInt(24), random.nextInt(24));
                return told("rain", a, 0, real.rain(a), plain.rain(a));
            case 2: case 3: case 4:
                a = number(0, 11);
                b = number(0, 1);
                return told("piano", a, b, real.piano(a, b), plain.piano(a, b));
            case 5:
                a = number(0, 11);
                return told("take", a, 0, real.take(a), plain.take(a));
            case 6:
                a = number(0, 11);
                return told("keeper", a, 0, real.keeper(a), plain.keeper(a));
            case 7: case 8:
                a = number(0, 11);
                return told("cover", a, 0, real.cover(a), plain.cover(a));
            case 9:
                return told("undo", 0, 0, real.undo(), plain.undo());
            case 10:
                a = number(0, 1);
                return told("save", a, 0, real.save(a), plain.save(a));
            case 11:
                a = number(0, 1);
                return random.nextInt(3) > 0 ? told("undo", 0, 0, real.undo(), plain.undo())
                    : told("restore", a, 0, real.restore(a), plain.restore(a));
            default:
                a = pace == 0 ? number(1, 4) : pace == 1 ? number(1, 30) : number(1, 99);
                return told("pass", a, 0, real.pass(a), plain.pass(a));
        }
    }

    private int[] look(int which) {
        int a = number(0, 11);
        int b;
        switch (which) {
            case 0:
                b = number(0, 5);
                return told("of", a, b, real.of(a, b), plain.of(a, b));
            case 1:
                a = number(0, 3);
                b = number(0, 4);
                return told("ofKeeper", a, b, real.ofKeeper(a, b), plain.ofKeeper(a, b));
            case 2:
                a = number(0, 18);
                return told("count", a, 0, real.count(a), plain.count(a));
            case 3:
                return told("worst", 0, 0, real.worst(), plain.worst());
            case 4: case 5:
                return told("why", a, 0, real.why(a), plain.why(a));
            case 6:
                return told("rainIn", 0, 0, real.rainIn(), plain.rainIn());
            case 7: case 8:
                return told("coveredIn", a, 0, real.coveredIn(a), plain.coveredIn(a));
            case 9: case 10:
                a = number(1, 99);
                return told("willBeWet", a, 0, real.willBeWet(a), plain.willBeWet(a));
            default:
                a = number(1, 48);
                b = number(0, 1);
                return told("bestPlace", a, b, real.bestPlace(a, b), plain.bestPlace(a, b));
        }
    }

    private int[] text(int which) {
        switch (which) {
            case 0:
                return told("wipe", 0, 0, real.wipe(), plain.wipe());
            case 1: case 2: case 3:
                return told("fault", 0, 0, real.fault(), plain.fault());
            case 4: case 5:
                return told("carryOut", 0, 0, real.carryOut(), plain.carryOut());
            case 6:
                long any = random.nextLong() >>> random.nextInt(64);
                return told("put any", 0, 0, real.put(any), plain.put(any));
            case 7:
                return write(mixed(1 + random.nextInt(8)));
            default:
                return write((plain.pad.isEmpty() ? "" : ";") + orders(1 + random.nextInt(4)));
        }
    }

    private int[] write(String text) {
        int[] answers = new int[2];
        for (int i = 0; i < text.length(); i += 8) {
            long characters = Help.packed(text.substring(i, Math.min(text.length(), i + 8)));
            answers = told("put '" + text + "'", i, 0, real.put(characters), plain.put(characters));
            if (answers[0] != answers[1]) {
                return answers;
            }
        }
        return told("fault of '" + plain.pad + "'", 0, 0, real.fault(), plain.fault());
    }

    private String mixed(int length) {
        String signs = "pkcrt;,-01239;c,";
        StringBuilder text = new StringBuilder();
        for (int i = 0; i < length; i++) {
            text.append(signs.charAt(random.nextInt(signs.length())));
        }
        return text.toString();
    }

    private String orders(int many) {
        StringBuilder text = new StringBuilder();
        for (int i = 0; i < many; i++) {
            text.append(i == 0 ? "" : ";");
            int place = random.nextInt(random.nextInt(12) == 0 ? 100 : 12);
            switch (random.nextInt(6)) {
                case 0: case 1:
                    text.append('p').append(place).append(random.nextBoolean() ? "c" : "");
                    break;
                case 2:
                    text.append('k').append(place);
                    break;
                case 3:
                    text.append('c').append(place);
                    break;
                case 4:
                    text.append('r').append(random.nextInt(5) == 0 ? "-"
                        : random.nextInt(24) + "," + random.nextInt(24));
                    break;
                default:
                    text.append('t').append(random.nextInt(40));
            }
        }
        return text.toString();
    }

    private int[] told(String name, long a, long b, int answer, int due) {
        call = name + " " + a + " " + b;
        calls++;
        return new int[] {answer, due};
    }
}
