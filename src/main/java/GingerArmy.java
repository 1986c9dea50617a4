/**
 * Ginger beer is the standing army: a cellar of stone bottles along a shelf. This class is the
 * face: it looks at what a call tells, refuses what it must, and hands the rest on. Shelf holds
 * the bottles, Mind thinks days ahead, Tale reads a told cellar, Past keeps what can be taken back.
 */
public final class GingerArmy {
    private static final int NOBODY = -1;
    private static final int OTHER = -2;
    private static final int STATE = -3;
    private static final int BELOW = -4;
    private static final int ROOM = -6;
    private static final int NONE = -9;
    private static final int EASED_REFUSED = 1000000000;
    private static final long LONG_REFUSED = 4000000000000000000L;

    private static final int PLACES = 15;
    private static final int MOST_BOTTLES = 8;
    private static final int KINDS = 6;
    private static final int FIGURES = 10;
    private static final int MOST_DIGIT = 9;
    private static final int MOST_PRESS = 99;
    private static final int MOST_AHEAD = 60;
    private static final int MOST_DAY = 999;
    private static final int MOST_LETTERS = 96;
    private static final int MOST_LETTER = 255;
    private static final int MOST_ROW = 12;
    private static final int MOST_STORMS = 7;
    private static final int MOST_ODDS = 20;
    private static final int MOST_SUMMERS = 20;

    private final Shelf now = new Shelf();
    private final Shelf trial = new Shelf();
    private final Shelf picture = new Shelf();
    private final Past past = new Past();
    private final Mind mind = new Mind();
    private final Tale tale = new Tale();
    private final int[] told = new int[MOST_ROW];
    private final int[] refusals = new int[7];
    private int toldCount;
    private boolean pictured;

    public GingerArmy() {
    }

    public int feed(int letter) {
        if (letter < 0) return refuse(BELOW);
        if (letter > MOST_LETTER || tale.length >= MOST_LETTERS) return refuse(ROOM);
        tale.add(letter);
        return tale.length;
    }

    public int cellar() {
        trial.copyFrom(now);
        int answer = tale.tellTo(trial);
        tale.forget();
        if (answer >= 0) {
            now.copyFrom(trial);
            past.forget();
        }
        return answer;
    }

    public int bottleOf(int bottle, int what) {
        if (!now.has(bottle)) return refuse(NOBODY);
        switch (what) {
            case 0: return now.kindOf(bottle);
            case 1: return now.figureOf(bottle);
            case 2: return now.placeOf(bottle);
            case 3: return now.pressOf(bottle);
            case 4: return now.isWhole(bottle) ? 1 : 0;
            case 5: return now.isCovered(bottle) ? 1 : 0;
            case 6: return now.riseOf(bottle);
            case 7: return now.bearOf(bottle);
            case 8: return now.shockOf(bottle);
            default: return refuse(OTHER);
        }
    }

    public int at(int place) {
        if (place < 0 || place >= PLACES) return refuse(NOBODY);
        return now.wholeAt(place);
    }

    public int bottle(int kind, int figure, int place) {
        if (kind < 0 || kind >= KINDS) return refuse(OTHER);
        if (figure < 0) return refuse(BELOW);
        if (figure > MOST_DIGIT || now.bottles >= MOST_BOTTLES) return refuse(ROOM);
        if (place < 0 || place >= PLACES) return refuse(NOBODY);
        if (now.wholeAt(place) != NONE) return refuse(STATE);
        past.forget();
        now.add(kind, figure, place);
        return now.bottles - 1;
    }

    public int feeds(int what, int v) {
        if (isNoTwo(what)) return refuse(OTHER);
        if (v < 0) return refuse(BELOW);
        if (v > MOST_DIGIT) return refuse(ROOM);
        past.keep(now);
        int before = what == 0 ? now.sugar : now.heat;
        if (what == 0) {
            now.nourish(v, now.heat);
        } else {
            now.nourish(now.sugar, v);
        }
        return before;
    }

    public int outs(int bottle) {
        if (!now.has(bottle)) return refuse(NOBODY);
        if (!now.isWhole(bottle)) return refuse(STATE);
        past.keep(now);
        int before = now.pressOf(bottle);
        now.setPress(bottle, 0);
        return before;
    }

    public int towels(int bottle) {
        if (!now.has(bottle)) return refuse(NOBODY);
        if (!now.isWhole(bottle)) return refuse(STATE);
        past.keep(now);
        now.turnTowel(bottle);
        return now.isCovered(bottle) ? 1 : 0;
    }

    public int days(int n) {
        if (n < 1) return refuse(BELOW);
        if (n > MOST_AHEAD || now.day + n > MOST_DAY) return refuse(ROOM);
        past.keep(now);
        now.pass(n);
        return Integer.bitCount(now.whole);
    }

    public int back() {
        if (past.kept == 0) return refuse(STATE);
        past.takeBack(now);
        return past.kept;
    }

    public int pressIn(int bottle, int n) {
        if (!now.has(bottle)) return refuse(NOBODY);
        int fault = aheadFault(n);
        if (fault != 0) return refuse(fault);
        return mind.ahead(now, n).pressOf(bottle);
    }

    public int then(int n, int what) {
        int fault = aheadFault(n);
        if (fault != 0) return refuse(fault);
        if (what < 0 || what > 2) return refuse(OTHER);
        Shelf later = mind.ahead(now, n);
        if (what == 0) return later.whole;
        return what == 1 ? later.pressOfWhole() : Integer.bitCount(later.whole);
    }

    public int goes(int bottle) {
        if (bottle == -1) return mind.firstToGo(now);
        if (!now.has(bottle)) return refuse(NOBODY);
        return mind.daysTillGone(now, bottle);
    }

    public int quiet() {
        return mind.longestQuiet(now);
    }

    public int takes(int bottle) {
        if (!now.has(bottle)) return refuse(NOBODY);
        if (!now.isWhole(bottle)) return refuse(STATE);
        return mind.takenBy(now, bottle);
    }

    public int worst(int what) {
        if (isNoTwo(what)) return refuse(OTHER);
        int worstOne = mind.worstOne(now);
        if (what == 0 || worstOne == NONE) return worstOne;
        return Integer.bitCount(mind.takenBy(now, worstOne));
    }

    public int safe(int bottle, int n) {
        if (!now.has(bottle)) return refuse(NOBODY);
        int fault = aheadFault(n);
        if (fault != 0) return refuse(fault);
        if (!now.isWhole(bottle)) return refuse(STATE);
        return mind.safestPlace(now, bottle, n);
    }

    public int towel(int n) {
        int fault = aheadFault(n);
        if (fault != 0) return refuse(fault);
        return mind.oneToCover(now, n);
    }

    public int spoon(int n, int what) {
        int fault = aheadFault(n);
        if (fault != 0) return refuse(fault);
        if (isNoTwo(what)) return refuse(OTHER);
        int best = mind.bestSugar(now, n);
        return what == 0 ? best : mind.leftWithSugar(now, best, n);
    }

    public int out(int n) {
        int fault = aheadFault(n);
        if (fault != 0) return refuse(fault);
        return mind.oneToLetOut(now, n);
    }

    public int ready(int bottle, int v, int n) {
        if (!now.has(bottle)) return refuse(NOBODY);
        if (v < 0 || n < 0) return refuse(BELOW);
        if (v > MOST_PRESS || n > MOST_AHEAD) return refuse(ROOM);
        return mind.leastSugarFor(now, bottle, v, n);
    }

    public int feedFor(int bottle, int v) {
        if (!now.has(bottle)) return refuse(NOBODY);
        if (v < 0) return refuse(BELOW);
        if (v > MOST_PRESS) return refuse(ROOM);
        return mind.fewestSweetDays(now, bottle, v);
    }

    public int move(int n) {
        int fault = aheadFault(n);
        if (fault != 0) return refuse(fault);
        return mind.bestChange(now, n);
    }

    public int halved() {
        return mind.daysTillOneGoesHalved(now);
    }

    public int whoWent() {
        return mind.whoLeaves(now, told, toldCount);
    }

    public int whatKind(int bottle, int what) {
        if (!now.has(bottle)) return refuse(NOBODY);
        if (isNoTwo(what)) return refuse(OTHER);
        if (what == 0) return mind.kindsThatPress(now, bottle, told, toldCount);
        return mind.figuresThatPress(now, bottle, told, toldCount);
    }

    public int two(int one, int other, int n) {
        if (areNoTwo(one, other)) return refuse(NOBODY);
        int fault = aheadFault(n);
        if (fault != 0) return refuse(fault);
        if (!now.isWhole(one) || !now.isWhole(other)) return refuse(STATE);
        return mind.restingPair(now, one, other, n);
    }

    public long thunders(int bottle, int n, int t, int part) {
        if (!now.has(bottle)) return refuseLong(NOBODY);
        if (n < 0 || t < 2) return refuseLong(BELOW);
        if (n > MOST_STORMS || t > MOST_ODDS) return refuseLong(ROOM);
        if (isNoTwo(part)) return refuseLong(OTHER);
        long below = 1;
        for (int d = 0; d < n; d++) {
            below *= t;
        }
        return partOf(mind.waysToStay(now, bottle, n, t), below, part);
    }

    public int shares(int n, int what) {
        if (n < 1) return refuse(BELOW);
        if (n > MOST_DIGIT) return refuse(ROOM);
        if (isNoTwo(what)) return refuse(OTHER);
        return what == 0 ? now.sugar / n : now.sugar % n;
    }

    public int tightest(int what) {
        if (what == 0) return now.tightestOne();
        if (what == 1) return now.longestGap();
        if (what == 2) return now.bottles - Integer.bitCount(now.whole);
        return refuse(OTHER);
    }

    public int near(int bottle) {
        if (!now.has(bottle)) return refuse(NOBODY);
        return now.nearTo(bottle);
    }

    public long mean(int part) {
        if (isNoTwo(part)) return refuseLong(OTHER);
        return partOf(now.pressOfWhole(), Integer.bitCount(now.whole), part);
    }

    public int spare(int bottle) {
        if (!now.has(bottle)) return refuse(NOBODY);
        return Math.max(0, now.bearOf(bottle) - now.pressOf(bottle));
    }

    public int pairs(int what) {
        switch (what) {
            case 0: return now.pairsNear();
            case 1: return mind.greatestCalmHeat(now);
            case 2: return Integer.bitCount(now.whole) - Integer.bitCount(mind.ahead(now, 1).whole);
            case 3: return mind.daysTillAllGone(now);
            default: return refuse(OTHER);
        }
    }

    public int eased(int bottle, int other, int n) {
        int fault = areNoTwo(bottle, other) ? NOBODY : aheadFault(n);
        if (fault != 0) return EASED_REFUSED - refuse(fault);
        return mind.easedBy(now, bottle, other, n);
    }

    public int officers(int kind) {
        if (kind < 0 || kind >= KINDS) return refuse(OTHER);
        return now.wholeOfKind(kind);
    }

    public int row(int v) {
        if (v < 0) return refuse(BELOW);
        if (v > MOST_PRESS || toldCount >= told.length) return refuse(ROOM);
        told[toldCount] = v;
        toldCount++;
        return toldCount;
    }

    public int judge() {
        int answer = NONE;
        for (int i = 0; i < toldCount && i < told.length && answer == NONE; i++) {
            if (!now.has(i) || now.pressOf(i) != told[i]) answer = i;
        }
        toldCount = 0;
        return answer;
    }

    public int clear() {
        int had = toldCount;
        toldCount = 0;
        return had;
    }

    public int lots(int n, int z, int what) {
        if (n < 1) return refuse(BELOW);
        if (n > MOST_SUMMERS) return refuse(ROOM);
        if (isNoTwo(what)) return refuse(OTHER);
        return mind.summersByLot(now, n, z, what);
    }

    public int image() {
        picture.copyFrom(now);
        pictured = true;
        return now.day;
    }

    public int restore() {
        if (!pictured) return refuse(STATE);
        now.copyFrom(picture);
        past.forget();
        return now.day;
    }

    public int count(int what) {
        switch (what) {
            case 0: return now.bottles;
            case 1: return now.day;
            case 2: return now.sugar;
            case 3: return now.heat;
            case 4: return now.whole;
            case 5: return now.pressOfWhole();
            case 6: return tale.length;
            case 7: return toldCount;
            case 8: return past.kept;
            default: return refusalsTold(what - 10);
        }
    }

    private int refusalsTold(int number) {
        return number >= 1 && number < refusals.length ? refusals[number] : NONE;
    }

    private int refuse(int code) {
        int number = -code;
        if (number >= 1 && number < refusals.length) refusals[number]++;
        return code;
    }

    private long refuseLong(int code) {
        return LONG_REFUSED - refuse(code);
    }

    private boolean areNoTwo(int one, int other) {
        return !now.has(one) || !now.has(other) || one == other;
    }

    private static boolean isNoTwo(int what) {
        return what != 0 && what != 1;
    }

    private static int aheadFault(int n) {
        if (n < 0) return BELOW;
        return n > MOST_AHEAD ? ROOM : 0;
    }

    private static long partOf(long above, long below, int part) {
        long common = commonMeasure(above, below);
        if (above == 0 || common == 0) return part;
        return part == 0 ? above / common : below / common;
    }

    private static long commonMeasure(long one, long other) {
        long greater = one;
        long lesser = other;
        // Euclid's remainders halve at least every second turn, so a long needs under 128 of them.
        for (int turn = 0; turn < 128 && lesser != 0; turn++) {
            long over = greater % lesser;
            greater = lesser;
            lesser = over;
        }
        return greater;
    }

    /** What each kind rises, bears and shocks; every kind but the first is told by the one above it. */
    static final class Kinds {
        private Kinds() {
        }

        static int rises(int kind, int figure, int sugar, int heat) {
            int bottle = sugar + heat / 2;
            int stone = bottle > 0 ? bottle - 1 : 0;
            int raisin = stone + figure / 3;
            switch (kind) {
                case 0: return bottle;
                case 1: return stone;
                case 3: return raisin;
                case 4: return sugar > 0 ? 1 : 0;
                case 5: return 2 * raisin;
                default: return 0;
            }
        }

        static int bears(int kind, int figure) {
            int bottle = 10 + figure;
            int stone = 2 * bottle;
            int raisin = stone - 5;
            switch (kind) {
                case 0: return bottle;
                case 1: return stone;
                case 3: return raisin;
                case 5: return raisin + figure;
                default: return 99;
            }
        }

        static int shocks(int kind, int figure) {
            switch (kind) {
                case 0: return 6;
                case 1: return 10;
                case 3: return 20;
                case 4: return figure;
                case 5: return 20;
                default: return 0;
            }
        }
    }

    /** The bottles on their shelf, their sugar, heat and day: all that the image keeps. */
    static final class Shelf {
        private static final int REACH = 2;

        private final int[] kind = new int[MOST_BOTTLES];
        private final int[] figure = new int[MOST_BOTTLES];
        private final int[] place = new int[MOST_BOTTLES];
        private final int[] press = new int[MOST_BOTTLES];
        // What Kinds says of each bottle is kept, since a day asks for it over and over.
        private final int[] rise = new int[MOST_BOTTLES];
        private final int[] bear = new int[MOST_BOTTLES];
        private final int[] shock = new int[MOST_BOTTLES];
        private int bottles;
        private int whole;
        private int covered;
        private int sugar = 2;
        private int heat;
        private int day;

        void copyFrom(Shelf other) {
            System.arraycopy(other.kind, 0, kind, 0, MOST_BOTTLES);
            System.arraycopy(other.figure, 0, figure, 0, MOST_BOTTLES);
            System.arraycopy(other.place, 0, place, 0, MOST_BOTTLES);
            System.arraycopy(other.press, 0, press, 0, MOST_BOTTLES);
            System.arraycopy(other.rise, 0, rise, 0, MOST_BOTTLES);
            System.arraycopy(other.bear, 0, bear, 0, MOST_BOTTLES);
            System.arraycopy(other.shock, 0, shock, 0, MOST_BOTTLES);
            bottles = other.bottles;
            whole = other.whole;
            covered = other.covered;
            sugar = other.sugar;
            heat = other.heat;
            day = other.day;
        }

        boolean has(int i) {
            return i >= 0 && i < bottles && i < MOST_BOTTLES;
        }

        boolean isWhole(int i) {
            return i >= 0 && i < MOST_BOTTLES && (whole >> i & 1) != 0;
        }

        boolean isCovered(int i) {
            return i >= 0 && i < MOST_BOTTLES && (covered >> i & 1) != 0;
        }

        int kindOf(int i) {
            return has(i) ? kind[i] : 0;
        }

        int figureOf(int i) {
            return has(i) ? figure[i] : 0;
        }

        int placeOf(int i) {
            return has(i) ? place[i] : 0;
        }

        int pressOf(int i) {
            return has(i) ? press[i] : 0;
        }

        int riseOf(int i) {
            return has(i) ? rise[i] : 0;
        }

        int bearOf(int i) {
            return has(i) ? bear[i] : 0;
        }

        int shockOf(int i) {
            return has(i) ? shock[i] : 0;
        }

        void add(int newKind, int newFigure, int newPlace) {
            if (bottles < 0 || bottles >= MOST_BOTTLES) return;
            int i = bottles;
            bottles++;
            whole |= 1 << i;
            place[i] = newPlace;
            become(i, newKind, newFigure);
        }

        void become(int i, int newKind, int newFigure) {
            if (!has(i)) return;
            kind[i] = newKind;
            figure[i] = newFigure;
            rise[i] = Kinds.rises(newKind, newFigure, sugar, heat);
            bear[i] = Kinds.bears(newKind, newFigure);
            shock[i] = Kinds.shocks(newKind, newFigure);
        }

        void nourish(int newSugar, int newHeat) {
            sugar = newSugar;
            heat = newHeat;
            for (int i = 0; i < MOST_BOTTLES; i++) {
                rise[i] = Kinds.rises(kind[i], figure[i], newSugar, newHeat);
            }
        }

        void setPress(int i, int newPress) {
            if (has(i)) press[i] = newPress;
        }

        void setPlace(int i, int newPlace) {
            if (has(i)) place[i] = newPlace;
        }

        void turnTowel(int i) {
            if (has(i)) covered ^= 1 << i;
        }

        void takeAway(int i) {
            if (has(i)) whole &= ~(1 << i);
        }

        void halvePress() {
            for (int i = 0; i < MOST_BOTTLES; i++) {
                if (isWhole(i)) press[i] /= 2;
            }
        }

        void pass(int n) {
            for (int d = 0; d < n; d++) {
                dayGoesBy();
            }
        }

        void dayGoesBy() {
            for (int i = 0; i < MOST_BOTTLES; i++) {
                if ((whole >> i & 1) == 0) continue;
                int pressed = press[i] + rise[i];
                press[i] = pressed > MOST_PRESS ? MOST_PRESS : pressed;
            }
            settle();
            day++;
        }

        /** Those that press above what they bear go, one by one, till there is none. */
        void settle() {
            // Each turn but the last one takes a bottle away.
            for (int turn = 0; turn < MOST_BOTTLES; turn++) {
                int next = NONE;
                for (int i = 0; i < MOST_BOTTLES && next == NONE; i++) {
                    if ((whole >> i & 1) != 0 && press[i] > bear[i]) next = i;
                }
                if (next == NONE) return;
                burst(next);
            }
        }

        void burst(int i) {
            if (i < 0 || i >= MOST_BOTTLES) return;
            whole &= ~(1 << i);
            int open = whole & ~covered;
            for (int j = 0; j < MOST_BOTTLES; j++) {
                int off = place[i] - place[j];
                if ((open >> j & 1) == 0 || off > REACH || off < -REACH) continue;
                int pressed = press[j] + shock[i];
                press[j] = pressed > MOST_PRESS ? MOST_PRESS : pressed;
            }
        }

        int wholeAt(int where) {
            for (int i = 0; i < MOST_BOTTLES; i++) {
                if (isWhole(i) && place[i] == where) return i;
            }
            return NONE;
        }

        int pressOfWhole() {
            int sum = 0;
            for (int i = 0; i < MOST_BOTTLES; i++) {
                if (isWhole(i)) sum += press[i];
            }
            return sum;
        }

        int wholeOfKind(int wanted) {
            int many = 0;
            for (int i = 0; i < MOST_BOTTLES; i++) {
                if (isWhole(i) && kind[i] == wanted) many++;
            }
            return many;
        }

        int nearTo(int i) {
            int bits = 0;
            if (!has(i)) return bits;
            for (int j = 0; j < MOST_BOTTLES; j++) {
                if (j != i && isWhole(j) && Math.abs(place[i] - place[j]) <= REACH) bits |= 1 << j;
            }
            return bits;
        }

        int pairsNear() {
            int ends = 0;
            for (int i = 0; i < MOST_BOTTLES; i++) {
                if (isWhole(i)) ends += Integer.bitCount(nearTo(i));
            }
            return ends / 2;
        }

        int tightestOne() {
            int tightest = NONE;
            int least = 0;
            for (int i = 0; i < MOST_BOTTLES; i++) {
                if (isWhole(i) && (tightest == NONE || bear[i] - press[i] < least)) {
                    tightest = i;
                    least = bear[i] - press[i];
                }
            }
            return tightest;
        }

        int longestGap() {
            int longest = 0;
            int run = 0;
            for (int where = 0; where < PLACES; where++) {
                run = wholeAt(where) == NONE ? run + 1 : 0;
                longest = Math.max(longest, run);
            }
            return longest;
        }
    }

    /** What would be, days on or with something else now; the shelf that it is asked of stays as it is. */
    static final class Mind {
        private static final int HALVING_DAYS = 7;
        private static final int SWEET_DAYS = 30;
        private static final int SUMMER_DAYS = 10;
        private static final int HOTTEST = 9;
        private static final int HEATS = 10;
        private static final int STAYING = 5;
        private static final int BOTH_CHOICES = 4;
        private static final int ALL_BUT_SIGN = 0x7fffffff;

        private final Shelf shelf = new Shelf();
        private final int[] oneWants = new int[BOTH_CHOICES];
        private final int[] otherWants = new int[BOTH_CHOICES];

        Shelf ahead(Shelf from, int n) {
            shelf.copyFrom(from);
            shelf.pass(n);
            return shelf;
        }

        private int leftBehind(int n) {
            shelf.pass(n);
            return Integer.bitCount(shelf.whole);
        }

        int daysTillGone(Shelf from, int bottle) {
            shelf.copyFrom(from);
            for (int d = 0; d <= MOST_AHEAD; d++) {
                if (!shelf.isWhole(bottle)) return d;
                shelf.dayGoesBy();
            }
            return NONE;
        }

        int firstToGo(Shelf from) {
            shelf.copyFrom(from);
            for (int d = 0; d < MOST_AHEAD; d++) {
                shelf.dayGoesBy();
                int gone = from.whole & ~shelf.whole;
                for (int i = 0; i < MOST_BOTTLES; i++) {
                    if ((gone >> i & 1) != 0) return i;
                }
            }
            return NONE;
        }

        int longestQuiet(Shelf from) {
            shelf.copyFrom(from);
            int longest = 0;
            int run = 0;
            for (int d = 0; d < MOST_AHEAD; d++) {
                int before = shelf.whole;
                shelf.dayGoesBy();
                run = shelf.whole == before ? run + 1 : 0;
                longest = Math.max(longest, run);
            }
            return longest;
        }

        int takenBy(Shelf from, int bottle) {
            shelf.copyFrom(from);
            shelf.burst(bottle);
            int besides = shelf.whole;
            shelf.settle();
            return besides & ~shelf.whole;
        }

        int worstOne(Shelf from) {
            int worst = NONE;
            int most = -1;
            for (int i = 0; i < MOST_BOTTLES; i++) {
                if (!from.isWhole(i)) continue;
                int taken = Integer.bitCount(takenBy(from, i));
                if (taken > most) {
                    most = taken;
                    worst = i;
                }
            }
            return worst;
        }

        int safestPlace(Shelf from, int bottle, int n) {
            int safest = NONE;
            int most = -1;
            for (int where = 0; where < PLACES; where++) {
                int holder = from.wholeAt(where);
                if (holder != NONE && holder != bottle) continue;
                shelf.copyFrom(from);
                shelf.setPlace(bottle, where);
                int left = leftBehind(n);
                if (left > most) {
                    most = left;
                    safest = where;
                }
            }
            return safest;
        }

        int oneToCover(Shelf from, int n) {
            int chosen = NONE;
            int most = Integer.bitCount(ahead(from, n).whole);
            for (int i = 0; i < MOST_BOTTLES; i++) {
                if (!from.isWhole(i) || from.isCovered(i)) continue;
                shelf.copyFrom(from);
                shelf.turnTowel(i);
                int left = leftBehind(n);
                if (left > most) {
                    most = left;
                    chosen = i;
                }
            }
            return chosen;
        }

        int oneToLetOut(Shelf from, int n) {
            int chosen = NONE;
            int most = Integer.bitCount(ahead(from, n).whole);
            for (int i = 0; i < MOST_BOTTLES; i++) {
                if (!from.isWhole(i)) continue;
                shelf.copyFrom(from);
                shelf.setPress(i, 0);
                int left = leftBehind(n);
                if (left > most) {
                    most = left;
                    chosen = i;
                }
            }
            return chosen;
        }

        /** Ten times the lesser bottle and the other whose places are best changed. */
        int bestChange(Shelf from, int n) {
            int chosen = NONE;
            int most = Integer.bitCount(ahead(from, n).whole);
            for (int i = 0; i < MOST_BOTTLES; i++) {
                for (int j = i + 1; j < MOST_BOTTLES; j++) {
                    if (!from.isWhole(i) || !from.isWhole(j)) continue;
                    shelf.copyFrom(from);
                    shelf.setPlace(i, from.placeOf(j));
                    shelf.setPlace(j, from.placeOf(i));
                    int left = leftBehind(n);
                    if (left > most) {
                        most = left;
                        chosen = 10 * i + j;
                    }
                }
            }
            return chosen;
        }

        int leftWithSugar(Shelf from, int sugar, int n) {
            shelf.copyFrom(from);
            shelf.nourish(sugar, from.heat);
            shelf.pass(n);
            return Integer.bitCount(shelf.whole);
        }

        int bestSugar(Shelf from, int n) {
            int best = 0;
            int most = -1;
            for (int sugar = 0; sugar <= MOST_DIGIT; sugar++) {
                int left = leftWithSugar(from, sugar, n);
                if (left >= most) {
                    most = left;
                    best = sugar;
                }
            }
            return best;
        }

        int leastSugarFor(Shelf from, int bottle, int v, int n) {
            for (int sugar = 0; sugar <= MOST_DIGIT; sugar++) {
                shelf.copyFrom(from);
                shelf.nourish(sugar, from.heat);
                shelf.pass(n);
                if (isReady(bottle, v)) return sugar;
            }
            return NONE;
        }

        private boolean isReady(int bottle, int v) {
            return shelf.isWhole(bottle) && shelf.pressOf(bottle) >= v;
        }

        int fewestSweetDays(Shelf from, int bottle, int v) {
            for (int sweet = 0; sweet <= SWEET_DAYS; sweet++) {
                shelf.copyFrom(from);
                shelf.nourish(MOST_DIGIT, from.heat);
                for (int d = 0; d <= SWEET_DAYS; d++) {
                    if (isReady(bottle, v)) return sweet;
                    if (d == sweet) shelf.nourish(0, from.heat);
                    shelf.dayGoesBy();
                }
            }
            return NONE;
        }

        int daysTillOneGoesHalved(Shelf from) {
            shelf.copyFrom(from);
            for (int d = 1; d <= MOST_AHEAD; d++) {
                if (d % HALVING_DAYS == 0) shelf.halvePress();
                shelf.dayGoesBy();
                if (shelf.whole != from.whole) return d;
            }
            return NONE;
        }

        int whoLeaves(Shelf from, int[] row, int told) {
            int bits = 0;
            for (int i = 0; i < MOST_BOTTLES; i++) {
                if (!from.isWhole(i)) continue;
                shelf.copyFrom(from);
                shelf.burst(i);
                shelf.settle();
                if (leavesAsTold(row, told)) bits |= 1 << i;
            }
            return bits;
        }

        private boolean leavesAsTold(int[] row, int told) {
            for (int d = 0; d < told && d < row.length; d++) {
                if (Integer.bitCount(shelf.whole) != row[d]) return false;
                shelf.dayGoesBy();
            }
            return true;
        }

        int kindsThatPress(Shelf from, int bottle, int[] row, int told) {
            int bits = 0;
            for (int kind = 0; kind < KINDS; kind++) {
                shelf.copyFrom(from);
                shelf.become(bottle, kind, from.figureOf(bottle));
                if (pressesAsTold(bottle, row, told)) bits |= 1 << kind;
            }
            return bits;
        }

        int figuresThatPress(Shelf from, int bottle, int[] row, int told) {
            int bits = 0;
            for (int figure = 0; figure < FIGURES; figure++) {
                shelf.copyFrom(from);
                shelf.become(bottle, from.kindOf(bottle), figure);
                if (pressesAsTold(bottle, row, told)) bits |= 1 << figure;
            }
            return bits;
        }

        private boolean pressesAsTold(int bottle, int[] row, int told) {
            for (int d = 0; d < told && d < row.length; d++) {
                if (shelf.pressOf(bottle) != row[d]) return false;
                shelf.dayGoesBy();
            }
            return true;
        }

        /** The first pair of choices, ten times the one's and the other's, that neither leaves alone. */
        int restingPair(Shelf from, int one, int other, int n) {
            for (int pair = 0; pair < BOTH_CHOICES; pair++) {
                shelf.copyFrom(from);
                if (pair >= 2) shelf.setPress(one, 0);
                if (pair % 2 == 1) shelf.setPress(other, 0);
                shelf.pass(n);
                oneWants[pair] = wantMet(one);
                otherWants[pair] = wantMet(other);
            }
            for (int pair = 0; pair < BOTH_CHOICES; pair++) {
                boolean oneRests = oneWants[pair] >= oneWants[pair ^ 2];
                boolean otherRests = otherWants[pair] >= otherWants[pair ^ 1];
                if (oneRests && otherRests) return 10 * (pair / 2) + pair % 2;
            }
            return NONE;
        }

        private int wantMet(int bottle) {
            return shelf.isWhole(bottle) ? STAYING + shelf.pressOf(bottle) / 10 : 0;
        }

        /** Of t to the n equal ways that the days may come, those in which the bottle stays whole. */
        long waysToStay(Shelf from, int bottle, int n, int t) {
            long ways = 0;
            int courses = 1 << Math.min(n, MOST_STORMS);
            for (int course = 0; course < courses; course++) {
                shelf.copyFrom(from);
                long weight = 1;
                for (int d = 0; d < n && shelf.isWhole(bottle); d++) {
                    boolean thunder = (course >> d & 1) != 0;
                    shelf.nourish(from.sugar, thunder ? HOTTEST : from.heat);
                    shelf.dayGoesBy();
                    if (!thunder) weight *= t - 1;
                }
                if (shelf.isWhole(bottle)) ways += weight;
            }
            return ways;
        }

        int greatestCalmHeat(Shelf from) {
            for (int heat = MOST_DIGIT; heat >= 0; heat--) {
                shelf.copyFrom(from);
                shelf.nourish(from.sugar, heat);
                shelf.dayGoesBy();
                if (shelf.whole == from.whole) return heat;
            }
            return NONE;
        }

        int daysTillAllGone(Shelf from) {
            shelf.copyFrom(from);
            for (int d = 0; d <= MOST_AHEAD; d++) {
                if (shelf.whole == 0) return d;
                shelf.dayGoesBy();
            }
            return NONE;
        }

        int easedBy(Shelf from, int bottle, int other, int n) {
            int asItIs = ahead(from, n).pressOf(bottle);
            shelf.copyFrom(from);
            shelf.takeAway(other);
            shelf.pass(n);
            return asItIs - shelf.pressOf(bottle);
        }

        int summersByLot(Shelf from, int n, int seed, int what) {
            int z = seed;
            int sum = 0;
            for (int summer = 0; summer < n; summer++) {
                shelf.copyFrom(from);
                for (int d = 0; d < SUMMER_DAYS; d++) {
                    z = z * 1103515245 + 12345;
                    shelf.nourish(from.sugar, (z & ALL_BUT_SIGN) / 65536 % HEATS);
                    shelf.dayGoesBy();
                }
                sum += what == 0 ? Integer.bitCount(shelf.whole) : shelf.pressOfWhole();
            }
            return sum;
        }
    }

    /** The shelf as it was ahead of each of the latest changes. */
    static final class Past {
        private static final int MOST_KEPT = 8;
        private static final int LAST_SLOT = MOST_KEPT - 1;

        private final Shelf[] shelves = new Shelf[MOST_KEPT];
        private int next;
        private int kept;

        Past() {
            for (int i = 0; i < MOST_KEPT; i++) {
                shelves[i] = new Shelf();
            }
        }

        void keep(Shelf now) {
            Shelf slot = shelves[next & LAST_SLOT];
            if (slot == null) return;
            slot.copyFrom(now);
            next = (next + 1) & LAST_SLOT;
            kept = Math.min(MOST_KEPT, kept + 1);
        }

        void takeBack(Shelf now) {
            if (kept == 0) return;
            next = (next - 1) & LAST_SLOT;
            kept--;
            Shelf slot = shelves[next];
            if (slot != null) now.copyFrom(slot);
        }

        void forget() {
            kept = 0;
        }
    }

    /** The letters of a cellar that is being told. */
    static final class Tale {
        private static final int BROKEN = -1000;
        private static final int WRONG = -2000;

        private final int[] letters = new int[MOST_LETTERS];
        private int length;

        void add(int letter) {
            if (length < 0 || length >= letters.length) return;
            letters[length] = letter;
            length++;
        }

        void forget() {
            length = 0;
        }

        /** How many statements came to the shelf, or the fault; with a fault the shelf is spoilt. */
        int tellTo(Shelf shelf) {
            int broken = firstBroken();
            if (broken != NONE) return BROKEN - broken;
            int start = 0;
            for (int statements = 0; statements < MOST_LETTERS; statements++) {
                if (start >= length) return statements;
                if (!carryOut(shelf, start)) return WRONG - start;
                start += digitsBehind(letterAt(start)) + 2;
            }
            return MOST_LETTERS;
        }

        /** The place of the first letter that no cellar has there, or NONE. */
        private int firstBroken() {
            int place = 0;
            for (int statements = 0; statements < MOST_LETTERS; statements++) {
                if (statements > 0 && place >= length) return NONE;
                int digits = digitsBehind(letterAt(place));
                if (digits == 0) return place;
                place++;
                for (int d = 0; d < digits; d++) {
                    if (!isDigit(letterAt(place))) return place;
                    place++;
                }
                if (letterAt(place) != ';') return place;
                place++;
            }
            return NONE;
        }

        /** The letter at a place; behind the end one that stands nowhere in a cellar. */
        private int letterAt(int place) {
            return place >= 0 && place < length && place < letters.length ? letters[place] : 0;
        }

        private int digitAt(int place) {
            return letterAt(place) - '0';
        }

        private int numberAt(int place) {
            return 10 * digitAt(place) + digitAt(place + 1);
        }

        private static boolean isDigit(int letter) {
            return letter >= '0' && letter <= '9';
        }

        /** How many digits a statement has behind its letter; 0 if none begins so. */
        private static int digitsBehind(int letter) {
            switch (letter) {
                case 'b': return 4;
                case 'p': return 3;
                case 't': return 1;
                case 'u': return 2;
                case 'o': return 1;
                case 'd': return 2;
                default: return 0;
            }
        }

        private boolean carryOut(Shelf shelf, int start) {
            int first = digitAt(start + 1);
            switch (letterAt(start)) {
                case 'b': return addBottle(shelf, first, digitAt(start + 2), numberAt(start + 3));
                case 'p': return pressOne(shelf, first, numberAt(start + 2));
                case 't': return coverOne(shelf, first);
                case 'o': return pressOne(shelf, first, 0);
                case 'u':
                    shelf.nourish(first, digitAt(start + 2));
                    return true;
                default:
                    int n = numberAt(start + 1);
                    if (!canPass(shelf, n)) return false;
                    shelf.pass(n);
                    return true;
            }
        }

        private static boolean addBottle(Shelf shelf, int kind, int figure, int place) {
            if (kind >= KINDS || place >= PLACES) return false;
            if (shelf.bottles >= MOST_BOTTLES || shelf.wholeAt(place) != NONE) return false;
            shelf.add(kind, figure, place);
            return true;
        }

        private static boolean pressOne(Shelf shelf, int bottle, int press) {
            if (!shelf.isWhole(bottle)) return false;
            shelf.setPress(bottle, press);
            return true;
        }

        private static boolean coverOne(Shelf shelf, int bottle) {
            if (!shelf.isWhole(bottle)) return false;
            shelf.turnTowel(bottle);
            return true;
        }

        private static boolean canPass(Shelf shelf, int n) {
            return n >= 1 && n <= MOST_AHEAD && shelf.day + n <= MOST_DAY;
        }
    }
}
