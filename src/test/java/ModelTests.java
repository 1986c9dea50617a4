import java.lang.reflect.Method;
import java.util.Arrays;

/** Long runs of drawn calls, each answered by the class as by the Model. */
public final class ModelTests {
    private static final int RUNS = 400;
    private static final int CALLS = 512;
    private static final int[] ODD = {-1, -2, -9, 10, 60, 61, 100, 256, Integer.MIN_VALUE, Integer.MAX_VALUE};

    /** Each method with the greatest ordinary value of each of its arguments; a letter for an argument drawn otherwise. */
    private static final String[] CALLS_DRAWN = {
        "bottleOf b 8", "at 14", "bottle 5 9 14", "bottle 5 9 14", "bottle 5 9 14", "feeds 1 9", "feeds 1 4", "outs b", "towels b",
        "days d", "days d", "back", "pressIn b 60", "then 60 2", "goes b", "goes f", "quiet", "takes b", "takes b", "worst 1",
        "safe b 20", "towel 20", "spoon 40 1", "out 20", "ready b 40 20", "feedFor b 40", "move 20", "halved", "whoWent",
        "whatKind b 1", "two b b 20", "thunders b 7 20 1", "shares 9 1", "tightest 2", "near b", "mean 1", "spare b", "pairs 3",
        "eased b b 30", "officers 5", "row 99", "judge", "clear", "lots 20 z 1", "image", "restore", "count 8", "count r",
        "feed l", "cellar"};

    private static long seed = 20261120L;

    private ModelTests() {
    }

    public static void main(String[] args) throws ReflectiveOperationException {
        for (int run = 0; run < RUNS; run++) {
            drawnRun(run);
        }
        wildRun();
        Check.close();
    }

    /** A draw below n. */
    private static int draw(int n) {
        seed = seed * 6364136223846793005L + 1442695040888963407L;
        return (int) ((seed >>> 33) % n);
    }

    private static void drawnRun(int run) throws ReflectiveOperationException {
        GingerArmy army = new GingerArmy();
        Model model = new Model();
        int calls = 0;
        // A cellar of 96 letters and its telling still fit.
        while (calls < CALLS - 97) {
            if (calls == 0 || draw(12) == 0) {
                calls += tell(run, army, model, text());
            } else if (draw(10) == 0) {
                calls += tellRow(run, army, model);
            } else {
                compare(run, army, model, CALLS_DRAWN[draw(CALLS_DRAWN.length)]);
                calls++;
            }
            if (draw(60) == 0 && army.count(4) == 0) break;
            calls++;
        }
        for (int what = 0; what <= 17; what++) {
            due(run, "count(" + what + ")", army.count(what), model.count(what));
        }
    }

    private static void due(int run, String call, long got, long want) {
        Check.due("run " + run + ": " + call, got, want);
    }

    private static int tell(int run, GingerArmy army, Model model, String text) {
        for (int i = 0; i < text.length(); i++) {
            due(run, "feed", army.feed(text.charAt(i)), model.feed(text.charAt(i)));
        }
        due(run, "cellar of " + text, army.cellar(), model.cellar());
        return text.length() + 1;
    }

    /** A row that is so of one of the bottles, of all of them, or of how many are left; the questions of it behind it. */
    private static int tellRow(int run, GingerArmy army, Model model) throws ReflectiveOperationException {
        int kind = draw(3);
        int bottle = draw(8);
        int long_ = 1 + draw(6);
        due(run, "clear", army.clear(), model.clear());
        for (int d = 0; d < long_; d++) {
            int v = kind == 0 ? model.pressIn(bottle, d) : kind == 1 ? model.bottleOf(d, 3) : model.then(d, 2) - draw(3);
            if (kind == 0) army.pressIn(bottle, d);
            if (kind == 1) army.bottleOf(d, 3);
            if (kind == 2) army.then(d, 2);
            due(run, "row(" + v + ")", army.row(v), model.row(v));
        }
        compare(run, army, model, "whoWent");
        compare(run, army, model, "whatKind b 0");
        compare(run, army, model, "whatKind b 1");
        compare(run, army, model, draw(2) == 0 ? "judge" : "count 8");
        return 2 * long_ + 5;
    }

    private static void compare(int run, GingerArmy army, Model model, String drawn) throws ReflectiveOperationException {
        String[] words = drawn.split(" ");
        Object[] args = new Object[words.length - 1];
        Class<?>[] types = new Class<?>[args.length];
        for (int i = 0; i < args.length; i++) {
            args[i] = argument(words[i + 1]);
            types[i] = int.class;
        }
        Method ours = GingerArmy.class.getMethod(words[0], types);
        Method theirs = Model.class.getMethod(words[0], types);
        long got = ((Number) ours.invoke(army, args)).longValue();
        long want = ((Number) theirs.invoke(model, args)).longValue();
        due(run, words[0] + Arrays.toString(args), got, want);
    }

    private static int argument(String word) {
        switch (word) {
            case "b": return draw(14) == 0 ? ODD[draw(ODD.length)] : draw(draw(3) == 0 ? 8 : 4);
            case "d": return draw(20) == 0 ? ODD[draw(ODD.length)] : draw(4) == 0 ? draw(61) : 1 + draw(3);
            case "f": return -1;
            case "z": return draw(4) == 0 ? ODD[draw(ODD.length)] : draw(Integer.MAX_VALUE) * (draw(2) == 0 ? 1 : -1);
            case "r": return 9 + draw(10);
            case "l": return draw(6) == 0 ? ODD[draw(ODD.length)] : "bptuod0123456789;".charAt(draw(17));
            default:
                int most = Integer.parseInt(word);
                return draw(25) == 0 ? ODD[draw(ODD.length)] : draw(30) == 0 ? most + 1 : draw(most + 1);
        }
    }

    private static String text() {
        StringBuilder text = new StringBuilder();
        int statements = 1 + draw(9);
        for (int i = 0; i < statements; i++) {
            text.append(statement());
        }
        if (draw(5) == 0) text.setCharAt(draw(text.length()), "bptuod0123456789;x".charAt(draw(18)));
        if (draw(9) == 0) text.setLength(draw(text.length() + 1));
        return text.toString();
    }

    private static String statement() {
        switch (draw(10)) {
            case 0: return "t" + draw(8) + ";";
            case 1: return "u" + draw(10) + draw(10) + ";";
            case 2: return draw(2) == 0 ? "o" + draw(8) + ";" : "u" + draw(4) + draw(3) + ";";
            case 3: return draw(3) == 0 ? "d" + draw(7) + draw(10) + ";" : "d0" + (1 + draw(3)) + ";";
            case 4: return "p" + draw(8) + draw(10) + draw(10) + ";";
            case 5: return "p" + draw(6) + draw(3) + draw(10) + ";";
            default: return "b" + draw(draw(20) == 0 ? 10 : 6) + draw(10) + (draw(3) == 0 ? "1" + draw(5) : "0" + draw(10)) + ";";
        }
    }

    /** Arguments of every size in every place: none may throw, all are as the Model answers. */
    private static void wildRun() throws ReflectiveOperationException {
        int[] values = {Integer.MIN_VALUE, -1000000000, -8, -1, 0, 1, 2, 7, 8, 15, 60, 99, 1000000000, Integer.MAX_VALUE};
        for (Method ours : GingerArmy.class.getDeclaredMethods()) {
            if (!java.lang.reflect.Modifier.isPublic(ours.getModifiers())) continue;
            Method theirs = Model.class.getMethod(ours.getName(), ours.getParameterTypes());
            GingerArmy army = new GingerArmy();
            Model model = new Model();
            tell(-1, army, model, "b0500;b1902;b5307;b2914;p104;");
            int count = ours.getParameterCount();
            for (int course = 0; course < 300; course++) {
                Object[] args = new Object[count];
                for (int i = 0; i < count; i++) {
                    args[i] = values[draw(values.length)];
                }
                long got = ((Number) ours.invoke(army, args)).longValue();
                long want = ((Number) theirs.invoke(model, args)).longValue();
                due(-1, ours.getName() + Arrays.toString(args), got, want);
            }
        }
    }
}
