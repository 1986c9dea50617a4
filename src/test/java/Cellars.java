import java.util.ArrayList;
import java.util.List;

/** How the tests tell cellars and rows, and what can be seen of an object. */
class Cellars {
    static final int EASED = 1000000000;
    static final long LONG = 4000000000000000000L;
    static final int LOW = Integer.MIN_VALUE;
    static final int HIGH = Integer.MAX_VALUE;
    /** Eight LEMONS of figure 0 at places 0 .. 7, which never go. */
    static final String EIGHT_LEMONS = "b2000;b2001;b2002;b2003;b2004;b2005;b2006;b2007;";

    Cellars() {
    }

    static void due(String call, long got, long want) {
        Check.due(call, got, want);
    }

    /** Feeds the letters of a text and tells the cellar. */
    static int tell(GingerArmy x, String text) {
        for (int i = 0; i < text.length(); i++) {
            due("feed of '" + text + "' at " + i, x.feed(text.charAt(i)), i + 1);
        }
        return x.cellar();
    }

    static GingerArmy told(String text) {
        GingerArmy x = new GingerArmy();
        Check.holds("a cellar '" + text + "' without fault", tell(x, text) > 0);
        return x;
    }

    static void rows(GingerArmy x, int... numbers) {
        x.clear();
        for (int i = 0; i < numbers.length; i++) {
            due("row of " + numbers[i], x.row(numbers[i]), i + 1);
        }
    }

    /** How often each REFUSAL -1 .. -6 was told. */
    static long[] refusals(GingerArmy x) {
        long[] all = new long[6];
        for (int i = 0; i < all.length; i++) {
            all[i] = x.count(11 + i);
        }
        return all;
    }

    /** All that can be seen of an object but its REFUSALS, in some 320 calls; the object is spent then. */
    static List<Long> seen(GingerArmy x) {
        List<Long> all = new ArrayList<>();
        seeShelf(x, all);
        all.add((long) x.whoWent());
        all.add((long) x.whatKind(0, 0));
        all.add((long) x.whatKind(0, 1));
        for (int i = 0; i < 9; i++) {
            all.add((long) x.back());
            for (int what = 1; what <= 5; what++) {
                all.add((long) x.count(what));
            }
            for (int bottle = 0; bottle < 4; bottle++) {
                all.add((long) x.bottleOf(bottle, 3));
                all.add((long) x.bottleOf(bottle, 5));
            }
        }
        all.add((long) x.judge());
        all.add((long) x.cellar());
        seeShelf(x, all);
        all.add((long) x.restore());
        seeShelf(x, all);
        return all;
    }

    private static void seeShelf(GingerArmy x, List<Long> all) {
        for (int what = 0; what <= 8; what++) {
            all.add((long) x.count(what));
        }
        for (int bottle = 0; bottle < 8; bottle++) {
            for (int what = 0; what <= 5; what++) {
                all.add((long) x.bottleOf(bottle, what));
            }
        }
    }
}
