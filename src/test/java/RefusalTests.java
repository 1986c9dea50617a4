import java.lang.reflect.InvocationTargetException;
import java.lang.reflect.Method;
import java.util.ArrayList;
import java.util.Arrays;
import java.util.List;

/**
 * Every refused call, by each mix of arguments at and beyond the edges, in six cellars: the number that it
 * answers, which of several refusals is told, and that nothing changes but how many there were.
 */
public final class RefusalTests extends Cellars {
    private static final int[] BOTTLE = {LOW, -1, 0, 1, 2, 7, 8, HIGH};
    private static final int[] BOTTLE_OR_FIRST = {LOW, -2, -1, 0, 1, 2, 7, 8, HIGH};
    private static final int[] AHEAD = {LOW, -1, 0, 60, 61, HIGH};
    private static final int[] TWO_THINGS = {LOW, -1, 0, 1, 2, HIGH};

    private RefusalTests() {
    }

    public static void main(String[] args) {
        lettersAndBottles();
        changes();
        daysAhead();
        bestOnes();
        rowsAndKinds();
        twosAndThunders();
        theRest();
        Check.holds("refused calls were seen: " + refused, refused > 2000);
        Check.close();
    }

    /** What a test knows of a cellar that it made, told by hand. */
    private static final class Known {
        final String name;
        final String[] texts;
        final int bottles;
        final int whole;
        final String places;
        final int day;
        boolean full;
        int changes;
        boolean pictured;
        List<Long> seen;

        Known(String name, int bottles, int whole, String places, int day, String... texts) {
            this.name = name;
            this.texts = texts;
            this.bottles = bottles;
            this.whole = whole;
            this.places = places;
            this.day = day;
        }

        Known with(boolean isFull, int howManyChanges, boolean isPictured) {
            full = isFull;
            changes = howManyChanges;
            pictured = isPictured;
            return this;
        }

        GingerArmy make() {
            GingerArmy x = new GingerArmy();
            for (String text : texts) {
                for (int i = 0; i < text.length(); i++) {
                    x.feed(text.charAt(i));
                }
                Check.holds("a cellar of " + name, x.cellar() > 0);
            }
            if (pictured) x.image();
            for (int i = 0; i < changes; i++) {
                x.feeds(1, (i + 1) % 2);
            }
            for (int i = 0; i < (full ? 12 : 2); i++) {
                x.row(i);
            }
            for (int i = 0; i < (full ? 96 : 2); i++) {
                x.feed("u5".charAt(i % 2));
            }
            return x;
        }

        boolean has(int bottle) {
            return bottle >= 0 && bottle < bottles;
        }

        boolean burst(int bottle) {
            return has(bottle) && (whole & 1 << bottle) == 0;
        }

        boolean taken(int place) {
            return (" " + places + " ").contains(" " + place + " ");
        }
    }

    private static final Known[] CELLARS = {
        new Known("none", 0, 0, "", 0),
        new Known("two, one of them burst", 2, 1, "0", 1, "b2900;b0905;p199;d01;").with(false, 3, true),
        new Known("three, the first burst", 3, 6, "3 14", 941, "d60;".repeat(15) + "d40;b0007;p099;d01;", "b2003;b4914;")
            .with(false, 1, false),
        new Known("eight, full of all", 8, 255, "0 1 2 3 4 5 6 7", 0, EIGHT_LEMONS).with(true, 8, true),
        new Known("eight, all burst", 8, 0, "", 6, "b0000;b0002;b0004;b0006;b0008;b0010;b0012;b0014;d06;").with(false, 2, false),
        new Known("two on the last day", 2, 3, "0 14", 999, "d60;".repeat(16) + "d39;", "b1900;b5914;").with(true, 0, true),
    };

    /** Which refusal is due; 0 for none. */
    private interface Due {
        int of(Known cellar, int[] a);
    }

    private static int when(boolean fault, int code) {
        return fault ? code : 0;
    }

    private static int first(int... codes) {
        for (int code : codes) {
            if (code != 0) return code;
        }
        return 0;
    }

    private static int ahead(int n) {
        return first(when(n < 0, -4), when(n > 60, -6));
    }

    private static boolean notTwo(int what) {
        return what < 0 || what > 1;
    }

    private static int refused;

    /** All mixes of the edges, in each cellar; a call that is not refused is looked at where it only asks. */
    private static void each(int promise, String name, boolean asks, Due due, int[]... edges) {
        Check.sentence(promise, name + "() is refused as told", () -> {
            for (Known cellar : CELLARS) {
                int mixes = 1;
                for (int[] edge : edges) {
                    mixes *= edge.length;
                }
                for (int mix = 0; mix < mixes; mix++) {
                    int[] a = new int[edges.length];
                    int rest = mix;
                    for (int i = 0; i < a.length; i++) {
                        a[i] = edges[i][rest % edges[i].length];
                        rest /= edges[i].length;
                    }
                    one(cellar, name, asks, due.of(cellar, a), a);
                }
            }
        });
    }

    private static void one(Known cellar, String name, boolean asks, int code, int[] a) {
        GingerArmy x = cellar.make();
        long[] before = refusals(x);
        String call = name + Arrays.toString(a) + " of " + cellar.name;
        long answer = call(x, name, a);
        long base = name.equals("eased") ? EASED : name.equals("thunders") || name.equals("mean") ? LONG : 0;
        if (code != 0) {
            refused++;
            due(call, answer, base == 0 ? code : base - code);
        } else {
            boolean looksRefused = base == 0 ? answer >= -6 && answer <= -1 : answer > base;
            Check.holds(call + " is not refused, answered " + answer, !looksRefused);
        }
        long[] after = refusals(x);
        for (int i = 0; i < after.length; i++) {
            due(call + ", refusals " + (-1 - i), after[i] - before[i], code == -1 - i ? 1 : 0);
        }
        if (code == 0 && !asks) return;
        if (cellar.seen == null) cellar.seen = seen(cellar.make());
        Check.holds(call + " changes nothing", seen(x).equals(cellar.seen));
    }

    private static long call(GingerArmy x, String name, int[] a) {
        Class<?>[] types = new Class<?>[a.length];
        Object[] args = new Object[a.length];
        for (int i = 0; i < a.length; i++) {
            types[i] = int.class;
            args[i] = a[i];
        }
        try {
            Method method = GingerArmy.class.getMethod(name, types);
            return ((Number) method.invoke(x, args)).longValue();
        } catch (NoSuchMethodException | IllegalAccessException | InvocationTargetException e) {
            throw new IllegalStateException(name, e);
        }
    }

    private static int[] edges(int... values) {
        return values;
    }

    /** LOW, one below the least, the least, the greatest, one above it, HIGH. */
    private static int[] from(int least, int greatest) {
        return edges(LOW, least - 1, least, greatest, greatest + 1, HIGH);
    }

    private static void lettersAndBottles() {
        each(2, "feed", false, (c, a) -> first(when(a[0] < 0, -4), when(a[0] > 255 || c.full, -6)), from(0, 255));
        each(4, "bottleOf", true, (c, a) -> first(when(!c.has(a[0]), -1), when(a[1] < 0 || a[1] > 8, -2)), BOTTLE, from(0, 8));
        each(5, "at", true, (c, a) -> when(a[0] < 0 || a[0] > 14, -1), from(0, 14));
        each(6, "bottle", false, (c, a) -> first(when(a[0] < 0 || a[0] > 5, -2), when(a[1] < 0, -4),
            when(a[1] > 9 || c.bottles == 8, -6), when(a[2] < 0 || a[2] > 14, -1), when(c.taken(a[2]), -3)),
            from(0, 5), from(0, 9), edges(LOW, -1, 0, 3, 7, 13, 14, 15, HIGH));
    }

    private static void changes() {
        each(7, "feeds", false, (c, a) -> first(when(notTwo(a[0]), -2), when(a[1] < 0, -4), when(a[1] > 9, -6)),
            TWO_THINGS, from(0, 9));
        each(8, "outs", false, (c, a) -> first(when(!c.has(a[0]), -1), when(c.burst(a[0]), -3)), BOTTLE);
        each(9, "towels", false, (c, a) -> first(when(!c.has(a[0]), -1), when(c.burst(a[0]), -3)), BOTTLE);
        each(10, "days", false, (c, a) -> first(when(a[0] < 1, -4), when(a[0] > 60 || a[0] + c.day > 999, -6)),
            edges(LOW, -1, 0, 1, 58, 59, 60, 61, HIGH));
        each(11, "back", false, (c, a) -> when(c.changes == 0, -3));
    }

    private static void daysAhead() {
        each(12, "pressIn", true, (c, a) -> first(when(!c.has(a[0]), -1), ahead(a[1])), BOTTLE, AHEAD);
        each(13, "then", true, (c, a) -> first(ahead(a[0]), when(a[1] < 0 || a[1] > 2, -2)), AHEAD, from(0, 2));
        each(14, "goes", true, (c, a) -> when(a[0] != -1 && !c.has(a[0]), -1), BOTTLE_OR_FIRST);
        each(15, "quiet", true, (c, a) -> 0);
        each(16, "takes", true, (c, a) -> first(when(!c.has(a[0]), -1), when(c.burst(a[0]), -3)), BOTTLE);
        each(17, "worst", true, (c, a) -> when(notTwo(a[0]), -2), TWO_THINGS);
    }

    private static void bestOnes() {
        each(18, "safe", true, (c, a) -> first(when(!c.has(a[0]), -1), ahead(a[1]), when(c.burst(a[0]), -3)), BOTTLE, AHEAD);
        each(19, "towel", true, (c, a) -> ahead(a[0]), AHEAD);
        each(20, "spoon", true, (c, a) -> first(ahead(a[0]), when(notTwo(a[1]), -2)), AHEAD, TWO_THINGS);
        each(21, "out", true, (c, a) -> ahead(a[0]), AHEAD);
        each(22, "ready", true, (c, a) -> first(when(!c.has(a[0]), -1), when(a[1] < 0 || a[2] < 0, -4),
            when(a[1] > 99 || a[2] > 60, -6)), BOTTLE, from(0, 99), AHEAD);
        each(23, "feedFor", true, (c, a) -> first(when(!c.has(a[0]), -1), when(a[1] < 0, -4), when(a[1] > 99, -6)),
            BOTTLE, from(0, 99));
        each(24, "move", true, (c, a) -> ahead(a[0]), AHEAD);
        each(25, "halved", true, (c, a) -> 0);
    }

    private static void rowsAndKinds() {
        each(26, "whoWent", true, (c, a) -> 0);
        each(27, "whatKind", true, (c, a) -> first(when(!c.has(a[0]), -1), when(notTwo(a[1]), -2)), BOTTLE, TWO_THINGS);
        each(38, "row", false, (c, a) -> first(when(a[0] < 0, -4), when(a[0] > 99 || c.full, -6)), from(0, 99));
        each(39, "judge", false, (c, a) -> 0);
        each(40, "clear", false, (c, a) -> 0);
    }

    private static void twosAndThunders() {
        Due two = (c, a) -> first(when(!c.has(a[0]) || !c.has(a[1]) || a[0] == a[1], -1), ahead(a[2]),
            when(c.burst(a[0]) || c.burst(a[1]), -3));
        each(28, "two", true, two, BOTTLE, BOTTLE, AHEAD);
        each(29, "thunders", true, (c, a) -> first(when(!c.has(a[0]), -1), when(a[1] < 0 || a[2] < 2, -4),
            when(a[1] > 7 || a[2] > 20, -6), when(notTwo(a[3]), -2)),
            edges(-1, 0, 1, 2, 8), edges(LOW, -1, 0, 7, 8, HIGH), edges(LOW, 0, 1, 2, 20, 21, HIGH), edges(-1, 0, 1, 2));
        each(36, "eased", true, (c, a) -> first(when(!c.has(a[0]) || !c.has(a[1]) || a[0] == a[1], -1), ahead(a[2])),
            BOTTLE, BOTTLE, AHEAD);
    }

    private static void theRest() {
        each(30, "shares", true, (c, a) -> first(when(a[0] < 1, -4), when(a[0] > 9, -6), when(notTwo(a[1]), -2)),
            from(1, 9), TWO_THINGS);
        each(31, "tightest", true, (c, a) -> when(a[0] < 0 || a[0] > 2, -2), from(0, 2));
        each(32, "near", true, (c, a) -> when(!c.has(a[0]), -1), BOTTLE);
        each(33, "mean", true, (c, a) -> when(notTwo(a[0]), -2), TWO_THINGS);
        each(34, "spare", true, (c, a) -> when(!c.has(a[0]), -1), BOTTLE);
        each(35, "pairs", true, (c, a) -> when(a[0] < 0 || a[0] > 3, -2), from(0, 3));
        each(37, "officers", true, (c, a) -> when(a[0] < 0 || a[0] > 5, -2), from(0, 5));
        each(41, "lots", true, (c, a) -> first(when(a[0] < 1, -4), when(a[0] > 20, -6), when(notTwo(a[2]), -2)),
            from(1, 20), edges(LOW, -1, 0, HIGH), TWO_THINGS);
        each(42, "image", false, (c, a) -> 0);
        each(43, "restore", false, (c, a) -> when(!c.pictured, -3));
        each(44, "count", true, (c, a) -> 0, edges(LOW, -1, 0, 8, 9, 10, 11, 16, 17, HIGH));
    }
}
