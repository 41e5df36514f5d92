/** Counts the answers that were looked at, and prints those that are not the due ones. */
final class Due {
    private static int passed = 0;
    private static int failed = 0;
    /** Stands ahead of what is printed, so that it is seen which sentence does not hold. */
    private static String about = "";

    private Due() { }

    static void about(String words) {
        about = words;
    }

    static void due(String call, long got, long want) {
        if (got == want) {
            passed++;
        } else {
            failed++;
            System.out.println(about + call + " answered " + got + ", due is " + want);
        }
    }

    static void same(String what, String got, String want) {
        if (got.equals(want)) {
            passed++;
        } else {
            failed++;
            System.out.println(about + what + ": " + got + ", due is " + want);
        }
    }

    static int failures() {
        return failed;
    }

    static int looks() {
        return passed + failed;
    }

    static void finish(String test) {
        System.out.println(test + ": " + passed + " answers as due, " + failed + " not");
        if (failed > 0 || passed == 0) {
            System.exit(1);
        }
    }
}
