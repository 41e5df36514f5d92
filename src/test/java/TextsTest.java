/** Promises 18 to 21: the pad and its orders. */
final class TextsTest {
    public static void main(String[] args) {
        put();
        putAtTheEdges();
        wipe();
        faults();
        faultAtTheEndOfALongText();
        carryOut();
        carryOutStops();
        carryOutEachOrder();
        carryOutIsOneChange();
        carryOutWithFault();
        Due.finish("TextsTest");
    }

    private static void put() {
        PianoCovers x = new PianoCovers();
        Due.due("one character", x.put('p'), 1);
        Due.due("eight characters", x.put(Help.packed("1;k2;t3;")), 9);
        Due.due("the lowest is the last", x.put(Help.packed("k4")), 11);
        Due.due("no fault", x.fault(), -6);
        Due.due("four orders", x.carryOut(), 4);
        Due.due("in this order", x.count(1), 2);
        Due.due("keepers", x.ofKeeper(0, 0) * 100 + x.ofKeeper(1, 0), 204);
        Due.due("no change but one", x.count(18), 1);
    }

    private static void putAtTheEdges() {
        PianoCovers x = new PianoCovers();
        long[] wrong = {0L, -1L, 32L, 127L, 128L, 255L, 0x100L, 0x7000L, 0x70_00_31L, 0x70_20_31L,
            0x20_70L, 0x7f_70L, 0x80_70L, 0xff_31_31_31_31_31_31_31L, 0x80_31_31_31_31_31_31_31L,
            0x20_31_31_31_31_31_31_31L, 0x01_00_31_31_31_31_31_31L, 0x31_00_00_00_00_00_00_31L,
            0x31_31_31_31_31_31_31_00L, 0x80_00_00_00_00_00_00_31L, 0x1fL << 8 | 0x31,
            Long.MIN_VALUE, Long.MAX_VALUE};
        for (long characters : wrong) {
            Due.due("put(" + Long.toHexString(characters) + ")", x.put(characters), -2);
        }
        Due.due("the pad is empty", x.count(17), 0);
        Due.due("33", x.put(33), 1);
        Due.due("126", x.put(126), 2);
        Due.due("eight of 126", x.put(0x7e7e7e7e7e7e7e7eL), 10);
        for (int i = 2; i <= 9; i++) {
            Due.due("eight more", x.put(Help.packed("abcdefgh")), 8 * i + 2 - 8 + 8);
        }
        Due.due("82 are too many", x.put(Help.packed("abcdefgh")), -4);
        Due.due("81 are too many", x.put(Help.packed("abcdefg")), -4);
        Due.due("BAD_VALUE first", x.put(0x20_31_31_31_31_31_31_31L), -2);
        Due.due("78 stay", x.count(17), 74);
        Due.due("80 are not", x.put(Help.packed("abcdef")), 80);
        Due.due("81 then", x.put('a'), -4);
        Due.due("80 stay", x.count(17), 80);
        Due.due("no change", x.count(18), 0);
    }

    private static void wipe() {
        PianoCovers x = new PianoCovers();
        Due.due("wipe() of nothing", x.wipe(), 0);
        Help.write(x, "p1;p2;p3;p4");
        Due.due("wipe()", x.wipe(), 11);
        Due.due("empty", x.count(17), 0);
        Due.due("nothing of it stays", x.fault(), 0);
        Due.due("k5", Help.write(x, "k5"), 2);
        Due.due("only the new one", x.carryOut(), 1);
        Due.due("no piano", x.count(1), 0);
        Due.due("carryOut() emptied it", x.wipe(), 0);
        Help.write(x, "k");
        x.piano(0, 0);
        x.undo();
        Due.due("undo() leaves the pad", x.wipe(), 1);
        Due.due("wipe() is no change", x.count(18), 1);
    }

    private static void faults() {
        Object[][] rows = {
            {"p0", -6}, {"p0c", -6}, {"p99c", -6}, {"k0", -6}, {"k99", -6}, {"c7", -6}, {"c99", -6}, {"t0", -6},
            {"t99", -6}, {"r0", -6}, {"r23", -6}, {"r0,0,0", -6}, {"r-", -6}, {"r-;r-", -6},
            {"r1,2,3;p4c;c5;k6;t7", -6},
            {"r10,19,20,9", -6}, {"p10c", -6}, {"t1;t1;t1", -6},
            {"", 0}, {"p", 1}, {"k", 1}, {"c", 1}, {"t", 1}, {"r", 1}, {"p1;", 3}, {"p1c;", 4}, {"r1,", 3}, {"r-;", 3},
            {"r1,23,", 6}, {"p1;k", 4},
            {"x", 0}, {";", 0}, {"1", 0}, {"-", 0}, {"P1", 0}, {",", 0}, {"pc", 1}, {"p-", 1}, {"p;", 1}, {"k;", 1},
            {"r;", 1}, {"r,", 1}, {"rc", 1}, {"t-", 1}, {"p00", 2}, {"p01", 2}, {"k05", 2}, {"t00", 2}, {"r00", 2},
            {"r05", 2}, {"p100", 3}, {"k100", 3}, {"c990", 3}, {"t999", 3}, {"r24", 2}, {"r29", 2}, {"r30", 2},
            {"r99", 2}, {"r230", 3}, {"r1,24", 4}, {"r1,30", 4}, {"r1,00", 4}, {"r1,,2", 3}, {"r1-", 2}, {"r--", 2},
            {"r-,1", 2}, {"r-1", 2}, {"r1,-", 3}, {"p1cc", 3}, {"p1c1", 3}, {"pc1", 1}, {"k1c", 2}, {"t1c", 2},
            {"c1c", 2}, {"r1c", 2}, {"p1p2", 2}, {"p1,2", 2}, {"k1,2", 2}, {"p1;;p2", 3}, {"p1;1", 3}, {"p1;x", 3},
            {"p1c;k2;t3;r1,2;c", 16}, {"p1c;k2;t3;r1,2;cc", 16}, {"!", 0}, {"~", 0}, {"p/", 1}, {"p:", 1},
            {"p1/", 2}, {"p1:", 2}, {"r2:", 2}, {"r2/", 2}, {"r1:", 2}, {"t1.5", 2}, {"p1!", 2}, {"r1;2", 3}};
        for (Object[] row : rows) {
            PianoCovers x = new PianoCovers();
            String text = (String) row[0];
            int due = (Integer) row[1];
            Help.write(x, text);
            Due.due("fault() of '" + text + "'", x.fault(), due);
            Due.due("fault() again", x.fault(), due);
            Due.due("length", x.count(17), text.length());
            if (due != -6) {
                Due.due("carryOut() of '" + text + "'", x.carryOut(), -3);
                Due.due("it stays", x.count(17), text.length());
                Due.due("no change", x.count(18), 0);
            }
        }
    }

    private static void faultAtTheEndOfALongText() {
        PianoCovers x = new PianoCovers();
        Help.write(x, "r-;".repeat(26) + "r-");
        Due.due("80 characters", x.count(17), 80);
        Due.due("27 orders", x.fault(), -6);
        Due.due("all are carried out", x.carryOut(), 27);
        Help.write(x, "r-;".repeat(26) + "r-");
        Due.due("27 again", x.carryOut(), 27);
        Help.write(x, "r-;".repeat(25) + "t99;r");
        Due.due("it ends too early, at 80", x.fault(), 80);
        x.wipe();
        Help.write(x, "r" + "1,".repeat(39) + "2");
        Due.due("forty hours", x.fault(), -6);
        Due.due("one order", x.carryOut(), 1);
        Due.due("two hours of rain", x.count(7), 6);
        Help.write(x, "r" + "1,".repeat(39) + ",");
        Due.due("the last character", x.fault(), 79);
    }

    private static void carryOut() {
        PianoCovers x = new PianoCovers();
        Help.write(x, "p2c;p9;k3;r8,9,10,11;t6;c9");
        Due.due("carryOut()", x.carryOut(), 6);
        Due.due("the pad is empty", x.count(17), 0);
        PianoCovers y = new PianoCovers();
        y.piano(2, 1);
        y.piano(9, 0);
        y.keeper(3);
        y.rain(3840);
        y.pass(6);
        y.cover(9);
        Due.same("as the calls would", Help.street(x), Help.street(y));
    }

    private static void carryOutStops() {
        Object[][] rows = {
            {"p2;p2;p3", 1}, {"p12;p3", 0}, {"k12", 0}, {"k99;k1", 0}, {"k1;k2;k3;k4;k5;p1", 4}, {"c0;p0", 0},
            {"p0;c0;c0;k0", 2}, {"p0c;c0;k0", 1}, {"t0;p1", 0}, {"p1;t0;p2", 1}, {"r1;r2;k11;k12;r3", 3}};
        int[] rain = {0, 0, 0, 0, 0, 0, 0, 0, 0, 0, 4};
        int[] pianos = {4, 0, 0, 0, 0, 0, 1, 1, 0, 2, 0};
        int[] keepers = {0, 0, 0, 0, 4, 0, 0, 0, 0, 0, 1};
        for (int i = 0; i < rows.length; i++) {
            PianoCovers x = new PianoCovers();
            String text = (String) rows[i][0];
            Help.write(x, text);
            Due.due("carryOut() of '" + text + "'", x.carryOut(), (Integer) rows[i][1]);
            Due.due("the pad is empty", x.count(17), 0);
            Due.due("a change", x.count(18), 1);
            Due.due("rain", x.count(7), rain[i]);
            Due.due("pianos", x.count(1), pianos[i]);
            Due.due("keepers", x.count(4), keepers[i]);
            Due.due("hours", x.count(0), 0);
        }
        PianoCovers x = new PianoCovers();
        Help.passAll(x, 9900);
        Help.write(x, "t90;t9;t1;k1");
        Due.due("up to the bound of hours", x.carryOut(), 2);
        Due.due("at the bound", x.count(0), 9999);
        Due.due("no keeper", x.count(4), 0);
    }

    private static void carryOutEachOrder() {
        PianoCovers x = new PianoCovers();
        Help.write(x, "p11c;p10");
        Due.due("two pianos", x.carryOut(), 2);
        Due.due("a cover at 11", x.of(11, 2), 1);
        Due.due("none at 10", x.of(10, 2), 0);
        Help.write(x, "c10");
        Due.due("a cover", x.carryOut(), 1);
        Due.due("at 10", x.of(10, 2), 1);
        Help.write(x, "k10;k7");
        Due.due("two keepers", x.carryOut(), 2);
        Due.due("places", x.ofKeeper(0, 0) * 100 + x.ofKeeper(1, 0), 1007);
        Help.write(x, "r23,0,5");
        Due.due("rain", x.carryOut(), 1);
        Due.due("in just these hours", x.count(7), 1 << 23 | 1 | 1 << 5);
        Help.write(x, "r7");
        x.carryOut();
        Due.due("the others no more", x.count(7), 1 << 7);
        Help.write(x, "r-");
        x.carryOut();
        Due.due("none", x.count(7), 0);
        Help.write(x, "t99;t1");
        x.carryOut();
        Due.due("hours", x.count(0), 100);
    }

    private static void carryOutIsOneChange() {
        PianoCovers x = new PianoCovers();
        x.piano(0, 0);
        String seen = Help.street(x);
        Help.write(x, "p1;p2;k3;t9;r5;p4c");
        Due.due("six orders", x.carryOut(), 6);
        Due.due("two changes", x.count(18), 2);
        Help.write(x, "p1");
        Due.due("none is carried out", x.carryOut(), 0);
        Due.due("a change all the same", x.count(18), 3);
        Help.write(x, "zz");
        Due.due("undo() of nothing", x.undo(), 2);
        Due.due("undo() of six", x.undo(), 1);
        Due.same("as before", Help.street(x), seen);
        Due.due("the pad is not undone", x.count(17), 2);
    }

    private static void carryOutWithFault() {
        PianoCovers x = new PianoCovers();
        Due.due("an empty pad", x.carryOut(), -3);
        Help.write(x, "p1;p2;q");
        String seen = Help.all(x);
        Due.due("a fault at the end", x.carryOut(), -3);
        Due.same("nothing is carried out, the pad stays", Help.all(x), seen);
    }
}
