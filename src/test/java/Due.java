/** Holds answers against those that are due, and ends a test with exit code 1 if one was wrong. */
final class Due {
    private static int wrong = 0;
    private static int seen = 0;

    private Due() {
    }

    static void due(String call, long got, long want) {
        seen++;
        if (got != want) {
            wrong++;
            System.out.println(call + " answered " + got + ", due is " + want);
        }
    }

    static void holds(String what, boolean so) {
        due(what, so ? 1 : 0, 1);
    }

    static void end() {
        System.out.println(seen + " answers, " + wrong + " not as due");
        if (wrong != 0 || seen == 0) {
            System.exit(1);
        }
    }
}
