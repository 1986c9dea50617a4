import java.util.ArrayList;
import java.util.List;

/** The document once more, told without care for room or speed, to hold the class against. */
public final class Model {
    private static final long LONG = 4000000000000000000L;

    /** A kind says only in what it differs from the one that it is under. */
    private static class Bottle {
        int kind;
        int figure;
        int place;
        int press;
        boolean whole = true;
        boolean towel;

        int rises(int sugar, int heat) {
            return sugar + heat / 2;
        }

        int bears() {
            return 10 + figure;
        }

        int shocks() {
            return 6;
        }
    }

    private static class Stone extends Bottle {
        @Override int rises(int sugar, int heat) {
            int r = super.rises(sugar, heat) - 1;
            return r < 0 ? 0 : r;
        }

        @Override int bears() {
            return 2 * super.bears();
        }

        @Override int shocks() {
            return super.shocks() + 4;
        }
    }

    private static class Lemon extends Bottle {
        @Override int rises(int sugar, int heat) {
            return 0;
        }

        @Override int bears() {
            return 99;
        }

        @Override int shocks() {
            return 0;
        }
    }

    private static class Raisin extends Stone {
        @Override int rises(int sugar, int heat) {
            return super.rises(sugar, heat) + figure / 3;
        }

        @Override int bears() {
            return super.bears() - 5;
        }

        @Override int shocks() {
            return 2 * super.shocks();
        }
    }

    private static final class Plant extends Lemon {
        @Override int rises(int sugar, int heat) {
            return super.rises(sugar, heat) + (sugar > 0 ? 1 : 0);
        }

        @Override int shocks() {
            return figure;
        }
    }

    private static final class Roman extends Raisin {
        @Override int rises(int sugar, int heat) {
            return 2 * super.rises(sugar, heat);
        }

        @Override int bears() {
            return super.bears() + figure;
        }
    }

    private static Bottle ofKind(int kind, int figure, int place) {
        Bottle b = switch (kind) {
            case 1 -> new Stone();
            case 2 -> new Lemon();
            case 3 -> new Raisin();
            case 4 -> new Plant();
            case 5 -> new Roman();
            default -> new Bottle();
        };
        b.kind = kind;
        b.figure = figure;
        b.place = place;
        return b;
    }

    /** All that there is of I. */
    private static final class World {
        final List<Bottle> bottles = new ArrayList<>();
        int sugar = 2;
        int heat;
        int day;

        World copy() {
            World w = new World();
            for (Bottle b : bottles) {
                w.bottles.add(like(b, b.kind, b.figure));
            }
            w.sugar = sugar;
            w.heat = heat;
            w.day = day;
            return w;
        }

        static Bottle like(Bottle b, int kind, int figure) {
            Bottle c = ofKind(kind, figure, b.place);
            c.press = b.press;
            c.whole = b.whole;
            c.towel = b.towel;
            return c;
        }

        World after(int n) {
            World w = copy();
            for (int d = 0; d < n; d++) {
                w.step();
            }
            return w;
        }

        World with(int newSugar, int newHeat) {
            World w = copy();
            w.sugar = newSugar;
            w.heat = newHeat;
            return w;
        }

        void step() {
            for (Bottle b : bottles) {
                if (b.whole) b.press = Math.min(99, b.press + b.rises(sugar, heat));
            }
            cascade();
            day++;
        }

        void cascade() {
            boolean again = true;
            while (again) {
                again = false;
                for (Bottle b : bottles) {
                    if (b.whole && b.press > b.bears()) {
                        go(b);
                        again = true;
                        break;
                    }
                }
            }
        }

        void go(Bottle b) {
            b.whole = false;
            for (Bottle c : bottles) {
                if (c != b && c.whole && !c.towel && Math.abs(c.place - b.place) < 3) {
                    c.press = Math.min(99, c.press + b.shocks());
                }
            }
        }

        int at(int place) {
            for (int i = 0; i < bottles.size(); i++) {
                if (bottles.get(i).whole && bottles.get(i).place == place) return i;
            }
            return -9;
        }

        boolean whole(int i) {
            return i >= 0 && i < bottles.size() && bottles.get(i).whole;
        }

        int bits() {
            int bits = 0;
            for (int i = 0; i < bottles.size(); i++) {
                if (whole(i)) bits += 1 << i;
            }
            return bits;
        }

        int left() {
            int n = 0;
            for (Bottle b : bottles) {
                if (b.whole) n++;
            }
            return n;
        }

        int press() {
            int sum = 0;
            for (Bottle b : bottles) {
                if (b.whole) sum += b.press;
            }
            return sum;
        }
    }

    private World i = new World();
    private World image;
    private final List<World> past = new ArrayList<>();
    private final List<Integer> row = new ArrayList<>();
    private final StringBuilder letters = new StringBuilder();
    private final int[] refused = new int[7];

    private int no(int code) {
        refused[-code]++;
        return code;
    }

    private long noLong(int code) {
        return LONG - no(code);
    }

    private boolean nobody(int bottle) {
        return bottle < 0 || bottle >= i.bottles.size();
    }

    private Bottle of(int bottle) {
        return i.bottles.get(bottle);
    }

    private static boolean notTwo(int what) {
        return what < 0 || what > 1;
    }

    private void change() {
        past.add(i.copy());
        if (past.size() > 8) past.remove(0);
    }

    public int feed(int letter) {
        if (letter < 0) return no(-4);
        if (letter > 255 || letters.length() == 96) return no(-6);
        letters.append((char) letter);
        return letters.length();
    }

    public int cellar() {
        String text = letters.toString();
        letters.setLength(0);
        String form = "b####;p###;t#;u##;o#;d##;";
        int place = 0;
        List<Integer> starts = new ArrayList<>();
        while (place < text.length() || starts.isEmpty()) {
            if (place >= text.length()) return -1000 - place;
            int f = "bptuod".indexOf(text.charAt(place)) < 0 ? -1 : form.indexOf(text.charAt(place));
            if (f < 0) return -1000 - place;
            starts.add(place);
            do {
                f++;
                place++;
                if (place >= text.length()) return -1000 - place;
                char c = text.charAt(place);
                boolean fits = form.charAt(f) == '#' ? c >= '0' && c <= '9' : c == ';';
                if (!fits) return -1000 - place;
            } while (form.charAt(f) != ';');
            place++;
        }
        World w = i.copy();
        for (int start : starts) {
            String statement = text.substring(start, text.indexOf(';', start));
            if (!comes(w, statement.charAt(0), statement.substring(1))) return -2000 - start;
        }
        i = w;
        past.clear();
        return starts.size();
    }

    private static boolean comes(World w, char c, String digits) {
        int all = Integer.parseInt(digits);
        int first = digits.charAt(0) - '0';
        switch (c) {
            case 'b':
                int place = all % 100;
                if (first > 5 || place > 14 || w.bottles.size() == 8 || w.at(place) != -9) return false;
                w.bottles.add(ofKind(first, digits.charAt(1) - '0', place));
                return true;
            case 'u':
                w.sugar = all / 10;
                w.heat = all % 10;
                return true;
            case 'd':
                if (all < 1 || all > 60 || w.day + all > 999) return false;
                for (int d = 0; d < all; d++) {
                    w.step();
                }
                return true;
            default:
                if (!w.whole(first)) return false;
                Bottle b = w.bottles.get(first);
                if (c == 'p') b.press = all % 100;
                if (c == 'o') b.press = 0;
                if (c == 't') b.towel = !b.towel;
                return true;
        }
    }

    public int bottleOf(int bottle, int what) {
        if (nobody(bottle)) return no(-1);
        if (what < 0 || what > 8) return no(-2);
        Bottle b = of(bottle);
        int[] all = {b.kind, b.figure, b.place, b.press, b.whole ? 1 : 0, b.towel ? 1 : 0,
            b.rises(i.sugar, i.heat), b.bears(), b.shocks()};
        return all[what];
    }

    public int at(int place) {
        return place < 0 || place > 14 ? no(-1) : i.at(place);
    }

    public int bottle(int kind, int figure, int place) {
        if (kind < 0 || kind > 5) return no(-2);
        if (figure < 0) return no(-4);
        if (figure > 9) return no(-6);
        if (i.bottles.size() == 8) return no(-6);
        if (place < 0 || place > 14) return no(-1);
        if (i.at(place) != -9) return no(-3);
        i.bottles.add(ofKind(kind, figure, place));
        past.clear();
        return i.bottles.size() - 1;
    }

    public int feeds(int what, int v) {
        if (notTwo(what)) return no(-2);
        if (v < 0) return no(-4);
        if (v > 9) return no(-6);
        change();
        int was = what == 0 ? i.sugar : i.heat;
        i = what == 0 ? i.with(v, i.heat) : i.with(i.sugar, v);
        return was;
    }

    public int outs(int bottle) {
        if (nobody(bottle)) return no(-1);
        if (!i.whole(bottle)) return no(-3);
        change();
        int was = of(bottle).press;
        of(bottle).press = 0;
        return was;
    }

    public int towels(int bottle) {
        if (nobody(bottle)) return no(-1);
        if (!i.whole(bottle)) return no(-3);
        change();
        of(bottle).towel = !of(bottle).towel;
        return of(bottle).towel ? 1 : 0;
    }

    public int days(int n) {
        if (n < 1) return no(-4);
        if (n > 60 || i.day + n > 999) return no(-6);
        change();
        i = i.after(n);
        return i.left();
    }

    public int back() {
        if (past.isEmpty()) return no(-3);
        i = past.remove(past.size() - 1);
        return past.size();
    }

    public int pressIn(int bottle, int n) {
        if (nobody(bottle)) return no(-1);
        if (n < 0) return no(-4);
        if (n > 60) return no(-6);
        return i.after(n).bottles.get(bottle).press;
    }

    public int then(int n, int what) {
        if (n < 0) return no(-4);
        if (n > 60) return no(-6);
        if (what < 0 || what > 2) return no(-2);
        World w = i.after(n);
        return what == 0 ? w.bits() : what == 1 ? w.press() : w.left();
    }

    public int goes(int bottle) {
        if (bottle != -1 && nobody(bottle)) return no(-1);
        if (bottle >= 0) {
            for (int d = 0; d <= 60; d++) {
                if (!i.after(d).whole(bottle)) return d;
            }
            return -9;
        }
        for (int d = 1; d <= 60; d++) {
            for (int b = 0; b < i.bottles.size(); b++) {
                if (i.whole(b) && !i.after(d).whole(b)) return b;
            }
        }
        return -9;
    }

    public int quiet() {
        int best = 0;
        for (int from = 0; from <= 60; from++) {
            for (int to = from; to <= 60; to++) {
                if (i.after(from).left() == i.after(to).left()) best = Math.max(best, to - from);
            }
        }
        return best;
    }

    private int taken(int bottle) {
        World w = i.copy();
        w.go(w.bottles.get(bottle));
        w.cascade();
        return i.bits() - w.bits() - (1 << bottle);
    }

    public int takes(int bottle) {
        if (nobody(bottle)) return no(-1);
        if (!i.whole(bottle)) return no(-3);
        return taken(bottle);
    }

    public int worst(int what) {
        if (notTwo(what)) return no(-2);
        int most = -9;
        int one = -9;
        for (int b = i.bottles.size() - 1; b >= 0; b--) {
            if (!i.whole(b)) continue;
            int n = Integer.bitCount(taken(b));
            if (n >= most) {
                most = n;
                one = b;
            }
        }
        return what == 0 ? one : most;
    }

    public int safe(int bottle, int n) {
        if (nobody(bottle)) return no(-1);
        if (n < 0) return no(-4);
        if (n > 60) return no(-6);
        if (!i.whole(bottle)) return no(-3);
        int most = -1;
        int best = -1;
        for (int p = 14; p >= 0; p--) {
            if (i.at(p) != -9 && of(bottle).place != p) continue;
            World w = i.copy();
            w.bottles.get(bottle).place = p;
            int left = w.after(n).left();
            if (left >= most) {
                most = left;
                best = p;
            }
        }
        return best;
    }

    public int towel(int n) {
        if (n < 0) return no(-4);
        if (n > 60) return no(-6);
        int most = i.after(n).left() + 1;
        int best = -9;
        for (int b = i.bottles.size() - 1; b >= 0; b--) {
            World w = i.copy();
            w.bottles.get(b).towel = true;
            if (w.after(n).left() >= most) {
                most = w.after(n).left();
                best = b;
            }
        }
        return best;
    }

    public int spoon(int n, int what) {
        if (n < 0) return no(-4);
        if (n > 60) return no(-6);
        if (notTwo(what)) return no(-2);
        int most = -1;
        int best = -1;
        for (int sugar = 9; sugar >= 0; sugar--) {
            int left = i.with(sugar, i.heat).after(n).left();
            if (left > most) {
                most = left;
                best = sugar;
            }
        }
        return what == 0 ? best : most;
    }

    public int out(int n) {
        if (n < 0) return no(-4);
        if (n > 60) return no(-6);
        int most = i.after(n).left() + 1;
        int best = -9;
        for (int b = i.bottles.size() - 1; b >= 0; b--) {
            if (!i.whole(b)) continue;
            World w = i.copy();
            w.bottles.get(b).press = 0;
            if (w.after(n).left() >= most) {
                most = w.after(n).left();
                best = b;
            }
        }
        return best;
    }

    public int ready(int bottle, int v, int n) {
        if (nobody(bottle)) return no(-1);
        if (v < 0 || n < 0) return no(-4);
        if (v > 99 || n > 60) return no(-6);
        for (int sugar = 0; sugar <= 9; sugar++) {
            Bottle b = i.with(sugar, i.heat).after(n).bottles.get(bottle);
            if (b.whole && b.press >= v) return sugar;
        }
        return -9;
    }

    public int feedFor(int bottle, int v) {
        if (nobody(bottle)) return no(-1);
        if (v < 0) return no(-4);
        if (v > 99) return no(-6);
        for (int sweet = 0; sweet <= 30; sweet++) {
            for (int d = 0; d <= 30; d++) {
                World w = i.with(9, i.heat).after(Math.min(d, sweet));
                Bottle b = w.with(0, i.heat).after(Math.max(0, d - sweet)).bottles.get(bottle);
                if (b.whole && b.press >= v) return sweet;
            }
        }
        return -9;
    }

    public int move(int n) {
        if (n < 0) return no(-4);
        if (n > 60) return no(-6);
        int most = i.after(n).left() + 1;
        int best = -9;
        for (int two = 77; two >= 0; two--) {
            int a = two / 10;
            int b = two % 10;
            if (a >= b || !i.whole(a) || !i.whole(b)) continue;
            World w = i.copy();
            w.bottles.get(a).place = of(b).place;
            w.bottles.get(b).place = of(a).place;
            if (w.after(n).left() >= most) {
                most = w.after(n).left();
                best = two;
            }
        }
        return best;
    }

    public int halved() {
        World w = i.copy();
        for (int d = 1; d <= 60; d++) {
            if (d == 7 || d == 14 || d == 21 || d == 28 || d == 35 || d == 42 || d == 49 || d == 56) {
                for (Bottle b : w.bottles) {
                    b.press = b.press >> 1;
                }
            }
            w.step();
            if (w.left() < i.left()) return d;
        }
        return -9;
    }

    public int whoWent() {
        int bits = 0;
        for (int b = 0; b < i.bottles.size(); b++) {
            if (!i.whole(b)) continue;
            World w = i.copy();
            w.go(w.bottles.get(b));
            w.cascade();
            boolean so = true;
            for (int d = 0; d < row.size(); d++) {
                so &= w.after(d).left() == row.get(d);
            }
            if (so) bits += 1 << b;
        }
        return bits;
    }

    public int whatKind(int bottle, int what) {
        if (nobody(bottle)) return no(-1);
        if (notTwo(what)) return no(-2);
        int bits = 0;
        for (int k = 0; k < (what == 0 ? 6 : 10); k++) {
            World w = i.copy();
            Bottle b = w.bottles.get(bottle);
            w.bottles.set(bottle, what == 0 ? World.like(b, k, b.figure) : World.like(b, b.kind, k));
            boolean so = true;
            for (int d = 0; d < row.size(); d++) {
                so &= w.after(d).bottles.get(bottle).press == row.get(d);
            }
            if (so) bits += 1 << k;
        }
        return bits;
    }

    private int want(int mine, int one, int a, int other, int b, int n) {
        World w = i.copy();
        if (a == 1) w.bottles.get(one).press = 0;
        if (b == 1) w.bottles.get(other).press = 0;
        Bottle m = w.after(n).bottles.get(mine);
        return m.whole ? 5 + m.press / 10 : 0;
    }

    public int two(int one, int other, int n) {
        if (nobody(one) || nobody(other) || one == other) return no(-1);
        if (n < 0) return no(-4);
        if (n > 60) return no(-6);
        if (!i.whole(one) || !i.whole(other)) return no(-3);
        for (int a = 0; a < 2; a++) {
            for (int b = 0; b < 2; b++) {
                boolean rest = want(one, one, a, other, b, n) >= want(one, one, 1 - a, other, b, n)
                    && want(other, one, a, other, b, n) >= want(other, one, a, other, 1 - b, n);
                if (rest) return 10 * a + b;
            }
        }
        return -9;
    }

    private static long ways(World w, int bottle, int n, int t, int cool) {
        if (n == 0) return w.whole(bottle) ? 1 : 0;
        return ways(w.with(w.sugar, 9).after(1), bottle, n - 1, t, cool)
            + (t - 1) * ways(w.with(w.sugar, cool).after(1), bottle, n - 1, t, cool);
    }

    public long thunders(int bottle, int n, int t, int part) {
        if (nobody(bottle)) return noLong(-1);
        if (n < 0 || t < 2) return noLong(-4);
        if (n > 7 || t > 20) return noLong(-6);
        if (notTwo(part)) return noLong(-2);
        long below = 1;
        for (int d = 0; d < n; d++) {
            below *= t;
        }
        return lowest(ways(i, bottle, n, t, i.heat), below, part);
    }

    private static long lowest(long above, long below, int part) {
        if (above == 0) return part;
        java.math.BigInteger a = java.math.BigInteger.valueOf(above);
        java.math.BigInteger b = java.math.BigInteger.valueOf(below);
        return (part == 0 ? a : b).divide(a.gcd(b)).longValueExact();
    }

    public int shares(int n, int what) {
        if (n < 1) return no(-4);
        if (n > 9) return no(-6);
        if (notTwo(what)) return no(-2);
        return what == 0 ? i.sugar / n : i.sugar - i.sugar / n * n;
    }

    public int tightest(int what) {
        if (what < 0 || what > 2) return no(-2);
        if (what == 2) return i.bottles.size() - i.left();
        int best = -9;
        int gap = 0;
        for (int b = i.bottles.size() - 1; b >= 0; b--) {
            Bottle m = of(b);
            if (m.whole && (best < 0 || m.bears() - m.press <= of(best).bears() - of(best).press)) best = b;
        }
        for (int from = 0; from < 15; from++) {
            for (int to = from; to < 15 && i.at(to) == -9; to++) {
                gap = Math.max(gap, to - from + 1);
            }
        }
        return what == 0 ? best : gap;
    }

    public int near(int bottle) {
        if (nobody(bottle)) return no(-1);
        int bits = 0;
        for (int b = 0; b < i.bottles.size(); b++) {
            if (b != bottle && i.whole(b) && Math.abs(of(b).place - of(bottle).place) < 3) bits += 1 << b;
        }
        return bits;
    }

    public long mean(int part) {
        if (notTwo(part)) return noLong(-2);
        return lowest(i.press(), i.left(), part);
    }

    public int spare(int bottle) {
        if (nobody(bottle)) return no(-1);
        return Math.max(of(bottle).bears() - of(bottle).press, 0);
    }

    public int pairs(int what) {
        if (what < 0 || what > 3) return no(-2);
        if (what == 2) return i.left() - i.after(1).left();
        if (what == 1) {
            int calm = -9;
            for (int heat = 0; heat < 10; heat++) {
                if (i.with(i.sugar, heat).after(1).left() == i.left()) calm = heat;
            }
            return calm;
        }
        if (what == 3) {
            for (int d = 0; d <= 60; d++) {
                if (i.after(d).left() == 0) return d;
            }
            return -9;
        }
        int n = 0;
        for (int a = 0; a < i.bottles.size(); a++) {
            for (int b = a + 1; b < i.bottles.size(); b++) {
                if (i.whole(a) && i.whole(b) && Math.abs(of(a).place - of(b).place) < 3) n++;
            }
        }
        return n;
    }

    public int eased(int bottle, int other, int n) {
        int code = nobody(bottle) || nobody(other) || bottle == other ? -1 : n < 0 ? -4 : n > 60 ? -6 : 0;
        if (code != 0) return 1000000000 - no(code);
        World w = i.copy();
        w.bottles.get(other).whole = false;
        return i.after(n).bottles.get(bottle).press - w.after(n).bottles.get(bottle).press;
    }

    public int officers(int kind) {
        if (kind < 0 || kind > 5) return no(-2);
        int n = 0;
        for (Bottle b : i.bottles) {
            if (b.whole && b.kind == kind) n++;
        }
        return n;
    }

    public int row(int v) {
        if (v < 0) return no(-4);
        if (v > 99 || row.size() == 12) return no(-6);
        row.add(v);
        return row.size();
    }

    public int judge() {
        int answer = -9;
        for (int b = row.size() - 1; b >= 0; b--) {
            if (nobody(b) || of(b).press != row.get(b)) answer = b;
        }
        row.clear();
        return answer;
    }

    public int clear() {
        int had = row.size();
        row.clear();
        return had;
    }

    public int lots(int n, int z, int what) {
        if (n < 1) return no(-4);
        if (n > 20) return no(-6);
        if (notTwo(what)) return no(-2);
        int sum = 0;
        for (int summer = 0; summer < n; summer++) {
            World w = i;
            for (int d = 0; d < 10; d++) {
                z = (int) ((long) z * 1103515245L + 12345L);
                w = w.with(w.sugar, (z << 1 >>> 1) / 65536 % 10).after(1);
            }
            sum += what == 0 ? w.left() : w.press();
        }
        return sum;
    }

    public int image() {
        image = i.copy();
        return i.day;
    }

    public int restore() {
        if (image == null) return no(-3);
        i = image.copy();
        past.clear();
        return i.day;
    }

    public int count(int what) {
        if (what >= 11 && what <= 16) return refused[what - 10];
        if (what < 0 || what > 8) return -9;
        int[] all = {i.bottles.size(), i.day, i.sugar, i.heat, i.bits(), i.press(), letters.length(), row.size(), past.size()};
        return all[what];
    }
}
