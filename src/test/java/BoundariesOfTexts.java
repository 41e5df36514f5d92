/** The sentences of the term "Texts" and of promises 18 to 21 that name a boundary. */
final class BoundariesOfTexts {
    private BoundariesOfTexts() { }

    static void run() {
        orders();
        numbersAndHours();
        faultOfAText();
        put();
        wipeAndFault();
        carryOut();
    }

    private static void fault(String text, int due) {
        PianoCovers x = Made.withPad(text);
        Due.due("fault() of '" + text + "'", x.fault(), due);
        Due.due("carryOut() of '" + text + "'", x.carryOut() == PianoCovers.BAD_TEXT ? 0 : 1,
            due == PianoCovers.NONE ? 1 : 0);
    }

    private static void good(String... texts) {
        for (String text : texts) {
            fault(text, PianoCovers.NONE);
        }
    }

    // ---- the term

    private static void orders() {
        Sentence.holds("Texts", "The pad is a text of at most 80 characters, a row of orders",
            BoundariesOfTexts::atMost80);
        Sentence.holds("Texts", "text = order { \";\" order }", BoundariesOfTexts::rowOfOrders);
        Sentence.holds("Texts", "order = \"p\" number [ \"c\" ]", BoundariesOfTexts::orderP);
        Sentence.holds("Texts", "\"k\" number", () -> orderWithANumber("k"));
        Sentence.holds("Texts", "\"c\" number", () -> orderWithANumber("c"));
        Sentence.holds("Texts", "\"r\" hour { \",\" hour }", BoundariesOfTexts::orderR);
        Sentence.holds("Texts", "\"r\" \"-\"", BoundariesOfTexts::orderRWithoutHours);
        Sentence.holds("Texts", "\"t\" number", () -> orderWithANumber("t"));
        Sentence.holds("Texts", "\"p\": piano() at a place, with a cover if \"c\" is told",
            BoundariesOfTexts::carriesOutP);
        Sentence.holds("Texts", "\"k\": keeper()", BoundariesOfTexts::carriesOutK);
        Sentence.holds("Texts", "\"c\": cover()", BoundariesOfTexts::carriesOutC);
        Sentence.holds("Texts", "\"r\": it rains in just these hours (0 to 23), or in none",
            BoundariesOfTexts::carriesOutR);
        Sentence.holds("Texts", "\"t\": pass() hours", BoundariesOfTexts::carriesOutT);
    }

    private static void atMost80() {
        PianoCovers x = Made.withFullPad();
        Due.due("80 characters", x.count(17), 80);
        Due.due("without a fault", x.fault(), PianoCovers.NONE);
        Due.due("all 27 orders", x.carryOut(), 27);
        Due.due("the last one, too", x.count(7), Help.hour(9));
        Made.refused("81 characters", Made::withFullPad, y -> y.put('0'), PianoCovers.TOO_MANY);
        PianoCovers y = Made.withPad("r-;".repeat(26) + "k");
        Due.due("79 characters", y.put('7'), 80);
        Due.due("27 orders", y.carryOut(), 27);
        Due.due("a keeper by the last character", y.ofKeeper(0, 0), 7);
    }

    private static void rowOfOrders() {
        good("t1", "t1;t1", "t1;t1;t1", "p1c;k2;c3;r4,5;r-;t6");
        fault(";", 0);
        fault("t1;", 3);
        fault("t1;;t1", 3);
        fault(";t1", 0);
        fault("t1t1", 2);
        fault("t1,t1", 2);
        fault("t1;1", 3);
        fault("t1:t1", 2);
        fault("x", 0);
        fault("P1", 0);
        fault("1", 0);
        fault("-", 0);
    }

    private static void orderP() {
        good("p0", "p9", "p10", "p99", "p0c", "p9c", "p10c", "p99c", "p1c;p1c");
        fault("p", 1);
        fault("pc", 1);
        fault("p-", 1);
        fault("p1cc", 3);
        fault("p1c1", 3);
        fault("p1c,", 3);
        fault("p1k", 2);
        fault("p1,2", 2);
        fault("p1-", 2);
    }

    private static void orderWithANumber(String letter) {
        for (String number : new String[] {"0", "1", "9", "10", "11", "12", "99"}) {
            good(letter + number);
        }
        fault(letter, 1);
        fault(letter + ";", 1);
        fault(letter + "-", 1);
        fault(letter + "c", 1);
        fault(letter + letter, 1);
        fault(letter + "1c", 2);
        fault(letter + "1,2", 2);
        fault(letter + "12-", 3);
    }

    private static void orderR() {
        good("r0", "r23", "r1,2", "r2,1", "r1,1", "r0,1,2,3,4,5,6,7,8,9,10,11,12,13,14,15,16,17,18,19,20,21,22,23");
        good("r" + "1,".repeat(39) + "2");
        fault("r", 1);
        fault("r,", 1);
        fault("r,1", 1);
        fault("r1,", 3);
        fault("r1,,2", 3);
        fault("r1,;", 3);
        fault("r1,-", 3);
        fault("r1-", 2);
        fault("r1c", 2);
        fault("r" + "1,".repeat(39) + ",", 79);
    }

    private static void orderRWithoutHours() {
        good("r-", "r-;r-", "r-;r1");
        fault("r--", 2);
        fault("r-1", 2);
        fault("r-,1", 2);
        fault("r-c", 2);
        fault("r-;", 3);
    }

    private static void carriesOutP() {
        PianoCovers x = Made.withPad("p0c;p11");
        Due.due("two", x.carryOut(), 2);
        Due.due("pianos", x.count(1), 1 | 1 << 11);
        Due.due("with a cover", x.of(0, 2), 1);
        Due.due("without", x.of(11, 2), 0);
        PianoCovers y = Made.withPad("p3;p4c;p5");
        y.carryOut();
        Due.due("each has its own", y.count(3), 1 << 4);
    }

    private static void carriesOutK() {
        PianoCovers x = Made.withPad("k11;k0");
        Due.due("two", x.carryOut(), 2);
        Due.due("the first", x.ofKeeper(0, 0), 11);
        Due.due("the second", x.ofKeeper(1, 0), 0);
    }

    private static void carriesOutC() {
        PianoCovers x = Made.withTwelvePianos();
        Help.write(x, "c0;c10");
        Due.due("two", x.carryOut(), 2);
        Due.due("at 0", x.of(0, 2), 1);
        Due.due("at 10", x.of(10, 2), 1);
        Due.due("at 2 not", x.of(2, 2), 0);
    }

    private static void carriesOutR() {
        PianoCovers x = Made.withPad("r0,23");
        Due.due("one", x.carryOut(), 1);
        Due.due("0 and 23", x.count(7), 1 | 1 << 23);
        Help.write(x, "r5,5;r7");
        x.carryOut();
        Due.due("just the hours of the last one", x.count(7), 1 << 7);
        Help.write(x, "r-");
        x.carryOut();
        Due.due("none", x.count(7), 0);
        Help.write(x, "r0,1,2,3,4,5,6,7,8,9,10,11,12,13,14,15,16,17,18,19,20,21,22,23");
        x.carryOut();
        Due.due("all", x.count(7), Help.ALL_HOURS);
    }

    private static void carriesOutT() {
        PianoCovers x = Made.withPad("t1;t99");
        Due.due("two", x.carryOut(), 2);
        Due.due("hours", x.count(0), 100);
    }

    private static void numbersAndHours() {
        Sentence.holds("Texts", "A number is 0 to 99", BoundariesOfTexts::numbers);
        Sentence.holds("Texts", "an hour 0 to 23", BoundariesOfTexts::hours);
        Sentence.holds("Texts", "without leading zeros", BoundariesOfTexts::withoutLeadingZeros);
        Sentence.holds("Texts", "(also of a digit by which a number would be above 99",
            BoundariesOfTexts::numberAbove99);
        Sentence.holds("Texts", "or an hour above 23)", BoundariesOfTexts::hourAbove23);
    }

    /** Each stands as it is, and nothing else does. */
    private static void numbers() {
        for (int number = 0; number <= 99; number++) {
            good("t" + number, "p" + number + "c");
        }
        for (char sign = 33; sign <= 126; sign++) {
            if (sign < '0' || sign > '9') {
                fault("t" + sign, 1);
            }
        }
        fault("t1.", 2);
        fault("t1/", 2);
        fault("t1:", 2);
    }

    private static void hours() {
        for (int hour = 0; hour <= 23; hour++) {
            PianoCovers x = Made.withPad("r" + hour);
            Due.due("r" + hour, x.fault(), PianoCovers.NONE);
            x.carryOut();
            Due.due("it rains in " + hour, x.count(7), 1 << hour);
        }
        for (int hour = 24; hour <= 99; hour++) {
            fault("r" + hour, 2);
            fault("r1," + hour, 4);
        }
        fault("r/", 1);
        fault("r:", 1);
    }

    private static void withoutLeadingZeros() {
        for (String letter : new String[] {"p", "k", "c", "t", "r", "r1,", "t1;r", "r1;p"}) {
            good(letter + "0");
            fault(letter + "00", letter.length() + 1);
            fault(letter + "01", letter.length() + 1);
            fault(letter + "09", letter.length() + 1);
        }
        good("p0c", "p0;k0", "r0,0");
        fault("p00c", 2);
    }

    private static void numberAbove99() {
        for (String letter : new String[] {"p", "k", "c", "t"}) {
            good(letter + "99");
            fault(letter + "100", 3);
            fault(letter + "990", 3);
            fault(letter + "999", 3);
            fault(letter + "1000", 3);
            fault("t1;" + letter + "123", 6);
        }
    }

    private static void hourAbove23() {
        good("r23", "r2", "r3", "r9", "r19", "r20", "r2,3");
        fault("r24", 2);
        fault("r29", 2);
        fault("r30", 2);
        fault("r39", 2);
        fault("r99", 2);
        fault("r230", 3);
        fault("r199", 3);
        fault("r23,24", 5);
        fault("r23,240", 5);
        fault("r23,230", 6);
    }

    private static void faultOfAText() {
        Sentence.holds("Texts", "the index of the first character that cannot stand at its place",
            BoundariesOfTexts::firstFault);
        Sentence.holds("Texts", "if there is none and the text ends too early", BoundariesOfTexts::endsTooEarly);
        Sentence.holds("Texts", "(also if it is empty), it is the length of the text", BoundariesOfTexts::emptyText);
    }

    private static void firstFault() {
        fault("!", 0);
        fault("~", 0);
        fault("xx", 0);
        fault("p1;x;x", 3);
        fault("p1x;x", 2);
        fault("p1c;k2;t3;r1,2;cc", 16);
        fault("p12", PianoCovers.NONE);
        fault("r-;".repeat(26) + "xx", 78);
        fault("r-;".repeat(26) + "r!", 79);
        PianoCovers x = Made.withPad("p1x");
        Due.due("the index stays, whatever comes behind it", x.put(Help.packed("x;!p1c")), 9);
        Due.due("fault() then", x.fault(), 2);
    }

    private static void endsTooEarly() {
        fault("p", 1);
        fault("r", 1);
        fault("p1;", 3);
        fault("p1;k", 4);
        fault("r1,", 3);
        fault("r1,23,", 6);
        fault("r-;", 3);
        fault("r-;".repeat(26) + "t;".substring(0, 1), 79);
        fault("r-;".repeat(25) + "t99;r", 80);
        fault("r-;".repeat(25) + "r12,,", 79);
        PianoCovers x = Made.withPad("p1;k");
        Due.due("ends too early", x.fault(), 4);
        x.put('3');
        Due.due("it goes on", x.fault(), PianoCovers.NONE);
        x.put(';');
        Due.due("and ends too early again", x.fault(), 6);
    }

    private static void emptyText() {
        PianoCovers x = new PianoCovers();
        Due.due("a new pad", x.fault(), 0);
        Help.write(x, "t1");
        Due.due("one with an order", x.fault(), PianoCovers.NONE);
        x.wipe();
        Due.due("wiped", x.fault(), 0);
        Help.write(x, "t1");
        x.carryOut();
        Due.due("carried out", x.fault(), 0);
        Made.refused("carryOut() of an empty pad", PianoCovers::new, PianoCovers::carryOut, PianoCovers.BAD_TEXT);
    }

    // ---- promises 18 to 21

    private static void put() {
        Sentence.holds("Promise 18", "Appends characters to the pad", BoundariesOfTexts::appends);
        Sentence.holds("Promise 18", "its lowest 8 bits are the last character, "
            + "the next 8 bits the one before, and so on",
            BoundariesOfTexts::lowestBitsAreTheLast);
        Sentence.holds("Promise 18", "8 bits that are 0 mean that there are no more characters",
            BoundariesOfTexts::noMoreCharacters);
        Sentence.holds("Promise 18", "everything above them has to be 0, too",
            BoundariesOfTexts::everythingAboveIsZero);
        Sentence.holds("Promise 18", "characters: 1 to 8 characters", BoundariesOfTexts::oneToEight);
        Sentence.holds("Promise 18", "Returns the length of the pad then", BoundariesOfTexts::lengthThen);
        Sentence.holds("Promise 18", "BAD_VALUE if there is no character", BoundariesOfTexts::noCharacter);
        Sentence.holds("Promise 18", "a code is not 33 to 126", BoundariesOfTexts::code33To126);
        Sentence.holds("Promise 18", "or a bit above 8 bits that are 0 is not 0",
            BoundariesOfTexts::aBitAboveIsNotZero);
        Sentence.holds("Promise 18", "TOO_MANY if the pad would be longer than 80", BoundariesOfTexts::longerThan80);
    }

    private static void appends() {
        PianoCovers x = Made.rich();
        x.put(Help.packed(";t9"));
        Due.due("behind what is there", x.carryOut(), 3);
        Due.due("the piano", x.of(7, 2), 1);
        Due.due("the keeper", x.ofKeeper(2, 0) >= 0 ? 1 : 0, 1);
        Due.due("the hours", x.count(0), 19);
        PianoCovers y = new PianoCovers();
        y.put('p');
        Due.due("put() is no change", y.count(18), 0);
    }

    private static void lowestBitsAreTheLast() {
        PianoCovers x = new PianoCovers();
        x.put('p' * 256L * 256L + '4' * 256L + 'c');
        Due.due("p4c", x.fault(), PianoCovers.NONE);
        x.carryOut();
        Due.due("a piano with a cover at 4", x.of(4, 2), 1);
        x.put(0x72_31_2c_32_3b_6b_31_31L);
        Due.due("r1,2;k11", x.carryOut(), 2);
        Due.due("hours", x.count(7), 6);
        Due.due("keeper", x.ofKeeper(0, 0), 11);
    }

    private static void noMoreCharacters() {
        for (int many = 1; many <= 8; many++) {
            PianoCovers x = new PianoCovers();
            Due.due(many + " characters", x.put(Help.packed("abcdefgh".substring(0, many))), many);
        }
    }

    private static void everythingAboveIsZero() {
        PianoCovers x = new PianoCovers();
        Due.due("two characters", x.put(0x00_00_70_31L), 2);
        refusedPut("p, 0, 1", 0x70_00_31L);
    }

    private static void oneToEight() {
        PianoCovers x = new PianoCovers();
        Due.due("one", x.put('p'), 1);
        Due.due("eight", x.put(Help.packed("12345678")), 9);
        refusedPut("none", 0);
    }

    private static void lengthThen() {
        PianoCovers x = new PianoCovers();
        for (int i = 1; i <= 80; i++) {
            Due.due("put() of one", x.put('!'), i);
        }
        Due.due("count(17)", x.count(17), 80);
    }

    private static void refusedPut(String name, long characters) {
        Made.refused("put of " + name, x -> x.put(characters), PianoCovers.BAD_VALUE);
    }

    private static void noCharacter() {
        refusedPut("0", 0);
        refusedPut("eight bits that are 0 below a character", 0x31_00L);
        refusedPut("and below seven", 0x31_31_31_31_31_31_31_00L);
        refusedPut("the highest bit alone", Long.MIN_VALUE);
    }

    private static void code33To126() {
        PianoCovers x = new PianoCovers();
        Due.due("33", x.put(33), 1);
        Due.due("126", x.put(126), 2);
        Due.due("eight times 126", x.put(0x7e_7e_7e_7e_7e_7e_7e_7eL), 10);
        Due.due("eight times 33", x.put(0x21_21_21_21_21_21_21_21L), 18);
        for (long code : new long[] {1, 31, 32, 127, 128, 160, 255}) {
            refusedPut("code " + code, code);
            refusedPut("code " + code + " ahead of others", code << 16 | 0x31_31L);
            refusedPut("code " + code + " as the first of eight", code << 56 | 0x31_31_31_31_31_31_31L);
            refusedPut("code " + code + " as the last of eight", 0x31_31_31_31_31_31_31_00L | code);
        }
        refusedPut("-1", -1L);
        refusedPut("the largest long", Long.MAX_VALUE);
    }

    private static void aBitAboveIsNotZero() {
        refusedPut("a character above", 0x70_00_31L);
        refusedPut("a bit right above", 0x1_00_31L);
        refusedPut("the highest bit", 0x80_00_00_00_00_00_00_31L);
        refusedPut("the highest bit, above seven", 0x80_00_31_31_31_31_31_31L);
        refusedPut("a character above six and two times 0", 0x31_00_31_31_31_31_31_31L);
        refusedPut("a bit above 32", 1L << 32 | 0x31L);
        Due.due("none above seven", new PianoCovers().put(0x31_31_31_31_31_31_31L), 7);
    }

    private static void longerThan80() {
        for (int many = 1; many <= 8; many++) {
            String text = "abcdefgh".substring(0, many);
            int before = 81 - many;
            PianoCovers x = Made.withPad("!".repeat(before - 1));
            Due.due(many + " behind " + (before - 1), x.put(Help.packed(text)), 80);
            Made.refused(many + " behind " + before, () -> Made.withPad("!".repeat(before)),
                y -> y.put(Help.packed(text)), PianoCovers.TOO_MANY);
        }
        Made.refused("one behind 80", Made::withFullPad, y -> y.put('1'), PianoCovers.TOO_MANY);
        Made.refused("eight behind 80", Made::withFullPad, y -> y.put(Help.packed("abcdefgh")), PianoCovers.TOO_MANY);
    }

    private static void wipeAndFault() {
        Sentence.holds("Promise 19", "Empties the pad, and returns the length that it had", BoundariesOfTexts::wipes);
        Sentence.holds("Promise 20", "Returns the fault of the pad", () -> fault("p1;x", 3));
        Sentence.holds("Promise 20", "NONE if there is none", BoundariesOfTexts::noFault);
    }

    private static void wipes() {
        PianoCovers x = new PianoCovers();
        Due.due("an empty one", x.wipe(), 0);
        x.put('p');
        Due.due("one character", x.wipe(), 1);
        Due.due("empty then", x.wipe(), 0);
        Due.due("a full one", Made.withFullPad().wipe(), 80);
        PianoCovers y = Made.rich();
        int changes = y.count(18);
        Due.due("six", y.wipe(), 6);
        Due.due("no change", y.count(18), changes);
        y.put(Help.packed("t1"));
        Due.due("nothing of it stays", y.carryOut(), 1);
        Due.due("no piano came", y.of(7, 0), PianoCovers.NO_SUCH);
    }

    private static void noFault() {
        PianoCovers x = Made.rich();
        Due.due("p7c;k0", x.fault(), PianoCovers.NONE);
        Due.due("asked again", x.fault(), PianoCovers.NONE);
        Due.due("it stays", x.count(17), 6);
        Due.due("nothing is carried out", x.of(7, 0), PianoCovers.NO_SUCH);
        x.put(';');
        Due.due("one more character", x.fault(), 7);
    }

    private static void carryOut() {
        Sentence.holds("Promise 21", "Carries the orders of the pad out, one after the other",
            BoundariesOfTexts::oneAfterTheOther);
        Sentence.holds("Promise 21", "up to the first one that returns an error", BoundariesOfTexts::upToTheFirstError);
        Sentence.holds("Promise 21", "and empties the pad", BoundariesOfTexts::emptiesThePad);
        Sentence.holds("Promise 21", "This is a change (one, with all of them", BoundariesOfTexts::oneChange);
        Sentence.holds("Promise 21", "also if none is carried out)", BoundariesOfTexts::aChangeIfNone);
        Sentence.holds("Promise 21", "Returns how many orders were carried out", BoundariesOfTexts::howManyOrders);
        Sentence.holds("Promise 21", "BAD_TEXT if the pad has a fault (then it stays)", BoundariesOfTexts::badText);
    }

    private static void oneAfterTheOther() {
        PianoCovers x = Made.withPad("r0;k2;p2c;t1;p3;c3");
        Due.due("six", x.carryOut(), 6);
        Due.due("2 was covered in the hour", x.of(2, 2), 2);
        Due.due("3 came behind it", x.of(3, 4), 0);
        Due.due("and got a cover", x.of(3, 2), 1);
    }

    private static void upToTheFirstError() {
        Object[][] rows = {
            // text, orders carried out, pianos, keepers, hours
            {"p12;p1", 0, 0, 0, 0}, {"p99;p1", 0, 0, 0, 0}, {"p11;p1", 2, 1 << 11 | 2, 0, 0},
            {"p1;p1;p2", 1, 2, 0, 0}, {"k12;p1", 0, 0, 0, 0}, {"k99;p1", 0, 0, 0, 0}, {"k11;p1", 2, 2, 1, 0},
            {"k1;k1;k1;k1;p1", 5, 2, 4, 0}, {"k1;k1;k1;k1;k1;p1", 4, 0, 4, 0}, {"c1;p1", 0, 0, 0, 0},
            {"p1c;c1;p2", 1, 2, 0, 0}, {"p1;c1;p2", 3, 6, 0, 0}, {"p1;c1;c1;p2", 2, 2, 0, 0}, {"c12;p1", 0, 0, 0, 0},
            {"t0;p1", 0, 0, 0, 0}, {"t1;p1", 2, 2, 0, 1}, {"t99;p1", 2, 2, 0, 99}, {"p1;t0", 1, 2, 0, 0}};
        for (Object[] row : rows) {
            PianoCovers x = Made.withPad((String) row[0]);
            Due.due("carryOut() of " + row[0], x.carryOut(), (Integer) row[1]);
            Due.due("pianos of " + row[0], x.count(1), (Integer) row[2]);
            Due.due("keepers of " + row[0], x.count(4), (Integer) row[3]);
            Due.due("hours of " + row[0], x.count(0), (Integer) row[4]);
        }
        PianoCovers x = Made.at(9900);
        Help.write(x, "t99;k1;t1;k2");
        Due.due("up to 9999 hours", x.carryOut(), 2);
        Due.due("hours", x.count(0), 9999);
        Due.due("keepers", x.count(4), 1);
    }

    private static void emptiesThePad() {
        PianoCovers x = Made.withPad("t1;t2");
        x.carryOut();
        Due.due("all carried out", x.count(17), 0);
        Help.write(x, "t1;t0;k5");
        x.carryOut();
        Due.due("one returned an error", x.count(17), 0);
        Help.write(x, "t0");
        x.carryOut();
        Due.due("none carried out", x.wipe(), 0);
        Help.write(x, "k3");
        Due.due("what stood behind the error is gone", x.carryOut(), 1);
        Due.due("one keeper", x.count(4), 1);
        x.undo();
        Due.due("undo() does not bring it back", x.count(17), 0);
    }

    private static void oneChange() {
        PianoCovers x = Made.withPad("p1;p2;p3;k1;k2;t1;r1;t2");
        Due.due("eight", x.carryOut(), 8);
        Due.due("one change", x.count(18), 1);
        Due.due("undone", x.undo(), 0);
        Due.same("all of them", Help.street(x), Help.street(new PianoCovers()));
        PianoCovers y = Made.withPad("p1;k12");
        y.carryOut();
        Due.due("one change with an error behind it", y.count(18), 1);
        y.undo();
        Due.due("undone, too", y.count(1), 0);
    }

    private static void aChangeIfNone() {
        PianoCovers x = Made.withPad("t0");
        x.piano(4, 0);
        Due.due("none", x.carryOut(), 0);
        Due.due("a change", x.count(18), 2);
        Due.due("undone", x.undo(), 1);
        Due.due("nothing was different", x.count(1), 1 << 4);
        x.undo();
        Due.due("the change before", x.count(1), 0);
    }

    private static void howManyOrders() {
        Due.due("one", Made.withPad("r-").carryOut(), 1);
        Due.due("27", Made.withFullPad().carryOut(), 27);
        Due.due("none", Made.withPad("c0").carryOut(), 0);
        Due.due("without the one that returns an error", Made.withPad("r-;r-;c0;r-").carryOut(), 2);
    }

    private static void badText() {
        for (String text : new String[] {"p1;p2;q", "p1;", "x", "p1;p100", "r24"}) {
            Made.refused("carryOut() of " + text, () -> faulty(text), PianoCovers::carryOut, PianoCovers.BAD_TEXT);
        }
        PianoCovers x = faulty("p1;k");
        Due.due("a fault", x.carryOut(), PianoCovers.BAD_TEXT);
        Due.due("it stays", x.count(17), 4);
        x.put('2');
        Due.due("and is carried out when it has none", x.carryOut(), 2);
        Due.due("a keeper", x.ofKeeper(1, 0), 2);
    }

    /** One with a piano and a keeper, an hour that passed, a slot, and a pad with this text. */
    private static PianoCovers faulty(String text) {
        PianoCovers x = Made.withPad(text);
        x.piano(3, 1);
        x.keeper(0);
        x.save(1);
        x.pass(1);
        return x;
    }
}
