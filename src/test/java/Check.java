/** Counts what is as due and prints what is not. */
final class Check {
    private static int passed;
    private static int failed;

    private Check() {
    }

    static void due(String call, long got, long want) {
        if (got == want) {
            passed++;
            return;
        }
        failed++;
        if (failed <= 100) System.out.println(call + " answered " + got + ", due is " + want);
    }

    static void holds(String rule, boolean kept) {
        due(rule, kept ? 1 : 0, 1);
    }

    static void close() {
        System.out.println(passed + " passed, " + failed + " failed");
        if (failed != 0) System.exit(1);
    }
}
