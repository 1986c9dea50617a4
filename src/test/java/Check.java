import java.util.Set;
import java.util.TreeSet;

/** Counts what is as due and prints what is not. */
final class Check {
    private static final Set<Integer> HELD = new TreeSet<>();
    private static int passed;
    private static int failed;
    private static String heading = "";

    private Check() {
    }

    static void due(String call, long got, long want) {
        if (got == want) {
            passed++;
            return;
        }
        failed++;
        if (failed <= 100) System.out.println(heading + call + " answered " + got + ", due is " + want);
    }

    static void holds(String rule, boolean kept) {
        due(rule, kept ? 1 : 0, 1);
    }

    /** The test of one sentence of the document: what is not as due in it is printed with its promise and words. */
    static void sentence(int promise, String words, Runnable test) {
        String outer = heading;
        int before = passed + failed;
        heading = "promise " + promise + ", \"" + words + "\": ";
        test.run();
        holds("something is looked at", passed + failed > before);
        heading = outer;
        HELD.add(promise);
    }

    /** The promises of which a sentence was tested. */
    static Set<Integer> promisesHeld() {
        return HELD;
    }

    static void close() {
        System.out.println(passed + " passed, " + failed + " failed");
        if (failed != 0) System.exit(1);
    }
}
