/** For each promise its ordinary answers, its edges and its refusals, worked out by hand. */
public final class PromiseTests extends Cellars {
    private PromiseTests() {
    }

    public static void main(String[] args) {
        p01NewObject();
        p02Feed();
        p03Cellar();
        p03CellarBroken();
        p03CellarWrong();
        p03CellarDays();
        p04BottleOf();
        p04RisesBearsShocks();
        p05At();
        p06Bottle();
        p07Feeds();
        p08Outs();
        p09Towels();
        p10Days();
        p10TheOrderOfGoing();
        p11Back();
        p12PressIn();
        p13Then();
        p14Goes();
        p15Quiet();
        p16Takes();
        p17Worst();
        p18Safe();
        p19Towel();
        p20Spoon();
        p21Out();
        p22Ready();
        p23FeedFor();
        p24Move();
        p25Halved();
        p26WhoWent();
        p27WhatKind();
        p28Two();
        p29Thunders();
        p30Shares();
        p31Tightest();
        p32Near();
        p33Mean();
        p34Spare();
        p35Pairs();
        p36Eased();
        p37Officers();
        p38Row();
        p39Judge();
        p40Clear();
        p41Lots();
        p42Image();
        p43Restore();
        p44Count();
        Check.close();
    }

    /** A BOTTLE of 5 (bears 15) at 0 and one of 9 (bears 19) at 2, pressing 14 each behind 7 days. */
    private static GingerArmy twoNear() {
        return told("b0500;b0902;");
    }

    private static GingerArmy twoNearPressing() {
        GingerArmy x = twoNear();
        due("days(7)", x.days(7), 2);
        return x;
    }

    private static void p01NewObject() {
        GingerArmy x = new GingerArmy();
        for (int what = 0; what <= 8; what++) {
            due("new count(" + what + ")", x.count(what), what == 2 ? 2 : 0);
        }
        for (int what = 11; what <= 16; what++) {
            due("new count(" + what + ")", x.count(what), 0);
        }
        due("new at(0)", x.at(0), -9);
        due("new bottleOf(0, 0)", x.bottleOf(0, 0), -1);
        due("new days(1)", x.days(1), 0);
        due("new pairs(3)", x.pairs(3), 0);
        due("new tightest(1)", x.tightest(1), 15);
    }

    private static void p02Feed() {
        GingerArmy x = new GingerArmy();
        due("feed(0)", x.feed(0), 1);
        due("feed(255)", x.feed(255), 2);
        due("feed(-1)", x.feed(-1), -4);
        due("feed(LOW)", x.feed(LOW), -4);
        due("feed(256)", x.feed(256), -6);
        due("feed(HIGH)", x.feed(HIGH), -6);
        for (int i = 3; i <= 96; i++) {
            due("feed the " + i + "th", x.feed(';'), i);
        }
        due("feed a 97th", x.feed('b'), -6);
        due("feed(-1) when full", x.feed(-1), -4);
        due("letters when full", x.count(6), 96);
        due("refusals -4", x.count(14), 3);
        due("refusals -6", x.count(16), 3);
        due("cellar", x.cellar(), -1000);
        due("letters then", x.count(6), 0);
        due("feed again", x.feed('b'), 1);
    }

    private static void p03Cellar() {
        GingerArmy x = new GingerArmy();
        due("a cellar that lacks its last letter", tell(x, "b0501;p012;t0;u93;o0;p007;d01;b4914;d02"), -1039);
        due("nothing came", x.count(0), 0);
        due("a cellar of all statements", tell(x, "b0501;p012;t0;u93;o0;p007;b4914;d02;"), 8);
        due("bottles", x.count(0), 2);
        due("day", x.count(1), 2);
        due("sugar", x.count(2), 9);
        due("heat", x.count(3), 3);
        due("towel of 0", x.bottleOf(0, 5), 1);
        due("place of 0", x.bottleOf(0, 2), 1);
        due("figure of 1", x.bottleOf(1, 1), 9);
        due("kind of 1", x.bottleOf(1, 0), 4);
        // 7, then 10 more in each day: 17 is above 15.
        due("press of 0", x.bottleOf(0, 3), 17);
        due("whole 0", x.bottleOf(0, 4), 0);
        due("press of 1", x.bottleOf(1, 3), 2);
        due("no letters", x.count(6), 0);
        due("a cellar more", tell(x, "b0101;t1;t1;"), 3);
        due("at(1)", x.at(1), 2);
        due("towel told again", x.bottleOf(1, 5), 0);
        due("a full cellar of 96", tell(x, "u00;".repeat(24)), 24);
        due("sugar", x.count(2), 0);
    }

    private static void p03CellarBroken() {
        String[] texts = {"", "x", "b", "b6", "b66", "b669", "b6699", "b6699x", "b6699;b", "B0501;", ";",
            "b0501;;", "bx", "b0x", "b050x", "b05011", "p0", "p01", "p010", "p0100;", "p01a;", "t", "t0", "tt;",
            "t00;", "u", "u1", "u11", "u1;", "u111;", "o", "o0", "o;", "d", "d1", "d1;", "d01", "d011;",
            "b0501;z", "b/500;", "b:500;", "d60;\u00ff", "b0501; "};
        int[] places = {0, 0, 1, 2, 3, 4, 5, 5, 7, 0, 0,
            6, 1, 2, 4, 5, 2, 3, 4, 4, 3, 1, 2, 1,
            2, 1, 2, 3, 2, 3, 1, 2, 1, 1, 2, 2, 3, 3,
            6, 1, 1, 4, 6};
        due("as many places as texts", texts.length, places.length);
        GingerArmy x = new GingerArmy();
        due("u12;", tell(x, "u12;"), 1);
        due("feeds", x.feeds(0, 3), 1);
        for (int i = 0; i < texts.length; i++) {
            due("'" + texts[i] + "'", tell(x, texts[i]), -1000 - places[i]);
            due("letters behind '" + texts[i] + "'", x.count(6), 0);
        }
        for (int number = 11; number <= 16; number++) {
            due("a fault is no refusal", x.count(number), 0);
        }
        due("a fault leaves what can be taken back", x.count(8), 1);
        due("a broken letter ahead of a wrong number", tell(x, "b9999;x"), -1006);
        due("96 letters that lack one", tell(x, "u00;".repeat(23) + "u00u"), -1095);
        due("96 letters that end too early", tell(x, "u00;".repeat(23) + "b000"), -1096);
    }

    private static void p03CellarWrong() {
        String[] texts = {"b6000;", "b9000;", "b0015;", "b0099;", "b0000;b0000;", "p000;", "t0;", "o0;", "d00;", "d61;",
            "b0000;p100;", "b0000;t1;", "b0000;o9;", "b0000;d99;", "u99;b0000;p099;d01;p000;",
            "b0000;p099;d01;t0;", "b0000;p099;d01;o0;", "b0000;p099;d01;b0000;b0000;",
            "b0000;b0001;b0002;b0003;b0004;b0005;b0006;b0007;b0008;",
            "b0000;d60;u00;b0100;p100;d01;d00;", "u11;b0000;b0101;t7;"};
        int[] places = {0, 0, 0, 0, 6, 0, 0, 0, 0, 0,
            6, 6, 6, 6, 19,
            15, 15, 21,
            48,
            29, 16};
        due("as many places as texts", texts.length, places.length);
        for (int i = 0; i < texts.length; i++) {
            GingerArmy x = new GingerArmy();
            due("'" + texts[i] + "'", tell(x, texts[i]), -2000 - places[i]);
            due("bottles behind '" + texts[i] + "'", x.count(0), 0);
            due("sugar behind '" + texts[i] + "'", x.count(2), 2);
            due("day behind '" + texts[i] + "'", x.count(1), 0);
            due("letters behind '" + texts[i] + "'", x.count(6), 0);
        }
    }

    private static void p03CellarDays() {
        GingerArmy x = new GingerArmy();
        due("a year", tell(x, "d60;".repeat(16)), 16);
        due("day", x.count(1), 960);
        due("a day too many", tell(x, "d39;d01;"), -2004);
        due("day", x.count(1), 960);
        due("feeds", x.feeds(0, 2), 2);
        due("the last day", tell(x, "d39;"), 1);
        due("day", x.count(1), 999);
        due("a cellar leaves nothing to take back", x.count(8), 0);
        due("days(1)", x.days(1), -6);
    }

    private static void p04BottleOf() {
        GingerArmy x = told("u35;b0300;b5914;p107;t1;");
        int[] first = {0, 3, 0, 0, 1, 0, 5, 13, 6};
        // A STONE rises 4, a RAISIN 3 more; it bears 33, and 9 more.
        int[] second = {5, 9, 14, 7, 1, 1, 14, 42, 20};
        for (int what = 0; what <= 8; what++) {
            due("bottleOf(0, " + what + ")", x.bottleOf(0, what), first[what]);
            due("bottleOf(1, " + what + ")", x.bottleOf(1, what), second[what]);
        }
        due("bottleOf(2, 0)", x.bottleOf(2, 0), -1);
        due("bottleOf(-1, 99)", x.bottleOf(-1, 99), -1);
        due("bottleOf(0, 9)", x.bottleOf(0, 9), -2);
        due("bottleOf(0, -1)", x.bottleOf(0, -1), -2);
        due("bottleOf(HIGH, HIGH)", x.bottleOf(HIGH, HIGH), -1);
        due("bottleOf(LOW, LOW)", x.bottleOf(LOW, LOW), -1);
        due("refusals -1", x.count(11), 4);
        due("refusals -2", x.count(12), 2);
        GingerArmy y = told("b0507;t0;p099;d01;");
        int[] burst = {0, 5, 7, 99, 0, 1, 2, 15, 6};
        for (int what = 0; what <= 8; what++) {
            due("of a burst one " + what, y.bottleOf(0, what), burst[what]);
        }
    }

    private static void p04RisesBearsShocks() {
        int[] sugars = {0, 0, 1, 2, 9};
        int[] heats = {0, 3, 1, 5, 9};
        int[][] rises = {
            {0, 1, 1, 4, 13}, {0, 0, 0, 3, 12}, {0, 0, 0, 0, 0},
            {2, 2, 2, 5, 14}, {0, 0, 1, 1, 1}, {4, 4, 4, 10, 28}};
        int[] bears = {18, 36, 99, 31, 99, 39};
        int[] shocks = {6, 10, 0, 20, 8, 20};
        GingerArmy x = new GingerArmy();
        for (int kind = 0; kind < 6; kind++) {
            due("bottle", x.bottle(kind, 8, 2 * kind), kind);
        }
        for (int kind = 0; kind < 6; kind++) {
            due("bears of kind " + kind, x.bottleOf(kind, 7), bears[kind]);
            due("shocks of kind " + kind, x.bottleOf(kind, 8), shocks[kind]);
            for (int i = 0; i < sugars.length; i++) {
                x.feeds(0, sugars[i]);
                x.feeds(1, heats[i]);
                due("rises of kind " + kind + ", " + i, x.bottleOf(kind, 6), rises[kind][i]);
            }
        }
        // A figure of 2 is too small to raise a RAISIN, 3 is not.
        GingerArmy y = told("u40;b3200;b3301;b5202;b5303;");
        for (int i = 0; i < 4; i++) {
            due("rises of " + i, y.bottleOf(i, 6), new int[] {3, 4, 6, 8}[i]);
        }
    }

    private static void p05At() {
        GingerArmy x = told("b0500;b0914;");
        due("at(0)", x.at(0), 0);
        due("at(14)", x.at(14), 1);
        due("at(7)", x.at(7), -9);
        due("at(-1)", x.at(-1), -1);
        due("at(15)", x.at(15), -1);
        due("at(LOW)", x.at(LOW), -1);
        due("at(HIGH)", x.at(HIGH), -1);
        due("refusals", x.count(11), 4);
        x.days(8);
        due("at(0) behind its going", x.at(0), -9);
    }

    private static void p06Bottle() {
        GingerArmy x = new GingerArmy();
        due("bottle(-1, -1, -1)", x.bottle(-1, -1, -1), -2);
        due("bottle(6, 10, 0)", x.bottle(6, 10, 0), -2);
        due("bottle(0, -1, 15)", x.bottle(0, -1, 15), -4);
        due("bottle(0, 10, 15)", x.bottle(0, 10, 15), -6);
        due("bottle(0, 0, 15)", x.bottle(0, 0, 15), -1);
        due("bottle(0, 0, -1)", x.bottle(0, 0, -1), -1);
        due("bottle(5, 9, 14)", x.bottle(5, 9, 14), 0);
        due("bottle(0, 0, 14)", x.bottle(0, 0, 14), -3);
        due("bottle(0, 0, 0)", x.bottle(0, 0, 0), 1);
        for (int i = 2; i < 8; i++) {
            due("a bottle more", x.bottle(2, i, i), i);
        }
        due("a ninth", x.bottle(0, 0, 9), -6);
        due("a ninth nowhere", x.bottle(0, 0, 99), -6);
        due("a ninth of none", x.bottle(0, -1, 9), -4);
        due("refusals -2", x.count(12), 2);
        due("refusals -4", x.count(14), 2);
        due("refusals -6", x.count(16), 3);
        due("refusals -1", x.count(11), 2);
        due("refusals -3", x.count(13), 1);
        GingerArmy y = told("b0505;p099;d01;");
        due("feeds", y.feeds(0, 5), 2);
        due("a refused one", y.bottle(0, 0, 15), -1);
        due("what can be taken back stays", y.count(8), 1);
        due("a place with a burst one in it is free", y.bottle(1, 4, 5), 1);
        due("nothing can be taken back", y.count(8), 0);
        due("its rise is by the sugar", y.bottleOf(1, 6), 4);
        due("its press", y.bottleOf(1, 3), 0);
        due("at(5)", y.at(5), 1);
        for (int i = 2; i < 8; i++) {
            due("a bottle more", y.bottle(2, 0, i + 4), i);
        }
        due("burst ones count for the room", y.bottle(2, 0, 0), -6);
    }

    private static void p07Feeds() {
        GingerArmy x = told("b0500;");
        due("feeds(0, 9)", x.feeds(0, 9), 2);
        due("feeds(0, 0)", x.feeds(0, 0), 9);
        due("feeds(1, 9)", x.feeds(1, 9), 0);
        due("feeds(1, 8)", x.feeds(1, 8), 9);
        due("sugar", x.count(2), 0);
        due("heat", x.count(3), 8);
        due("rises", x.bottleOf(0, 6), 4);
        due("feeds(2, -1)", x.feeds(2, -1), -2);
        due("feeds(-1, 10)", x.feeds(-1, 10), -2);
        due("feeds(0, -1)", x.feeds(0, -1), -4);
        due("feeds(1, LOW)", x.feeds(1, LOW), -4);
        due("feeds(0, 10)", x.feeds(0, 10), -6);
        due("feeds(1, HIGH)", x.feeds(1, HIGH), -6);
        due("to take back", x.count(8), 4);
        due("refusals", 10000 * x.count(12) + 100 * x.count(14) + x.count(16), 20202);
    }

    private static void p08Outs() {
        GingerArmy x = told("b0500;b0005;d03;p044;");
        due("outs(0)", x.outs(0), 44);
        due("press", x.bottleOf(0, 3), 0);
        due("press of 1", x.bottleOf(1, 3), 6);
        due("outs(0) again", x.outs(0), 0);
        due("to take back", x.count(8), 2);
        due("outs(2)", x.outs(2), -1);
        due("outs(-1)", x.outs(-1), -1);
        x.days(3);
        due("outs(1) burst", x.outs(1), -3);
        due("its press", x.bottleOf(1, 3), 12);
        due("to take back", x.count(8), 3);
        due("refusals", 100 * x.count(11) + x.count(13), 201);
    }

    private static void p09Towels() {
        GingerArmy x = told("b0500;b0005;d03;");
        due("towels(1)", x.towels(1), 1);
        due("under", x.bottleOf(1, 5), 1);
        due("towels(0)", x.towels(0), 1);
        due("towels(1)", x.towels(1), 0);
        due("not under", x.bottleOf(1, 5), 0);
        due("under", x.bottleOf(0, 5), 1);
        due("towels(2)", x.towels(2), -1);
        due("towels(-1)", x.towels(-1), -1);
        x.days(3);
        due("towels(1) burst", x.towels(1), -3);
        due("to take back", x.count(8), 4);
        due("refusals", 100 * x.count(11) + x.count(13), 201);
    }

    private static void p10Days() {
        GingerArmy x = twoNear();
        due("days(0)", x.days(0), -4);
        due("days(LOW)", x.days(LOW), -4);
        due("days(61)", x.days(61), -6);
        due("days(HIGH)", x.days(HIGH), -6);
        due("days(7)", x.days(7), 2);
        due("press of 0", x.bottleOf(0, 3), 14);
        due("days(1)", x.days(1), 0);
        due("press of 0", x.bottleOf(0, 3), 16);
        due("press of 1", x.bottleOf(1, 3), 22);
        for (int i = 0; i < 16; i++) {
            due("days(60)", x.days(60), 0);
        }
        due("day", x.count(1), 968);
        due("days(32)", x.days(32), -6);
        due("days(31)", x.days(31), 0);
        due("day", x.count(1), 999);
        due("days(1)", x.days(1), -6);
        due("days(0)", x.days(0), -4);
        due("refusals", 100 * x.count(14) + x.count(16), 304);
        GingerArmy y = told("u90;b2900;b0902;b4914;p098;p298;");
        due("held at 99", y.days(10), 2);
        due("lemon's press", y.bottleOf(0, 3), 99);
        due("plant's press", y.bottleOf(2, 3), 99);
        due("lost", y.tightest(2), 1);
    }

    private static void p10TheOrderOfGoing() {
        // A shock of 6 is above nothing that stands 3 places off, nor through a towel.
        GingerArmy x = told("u10;b0905;b0003;b0007;b0002;b0008;p019;p110;p210;p310;p410;t2;");
        due("days(1)", x.days(1), 0);
        due("the first, 20, is shocked by none", x.bottleOf(0, 3), 20);
        due("1: 11 and 6 by 0", x.bottleOf(1, 3), 17);
        due("2: 11 by itself, under a towel", x.bottleOf(2, 3), 11);
        due("3: 11 and 6 by 1", x.bottleOf(3, 3), 17);
        due("4: 11 and 6 by 2", x.bottleOf(4, 3), 17);
        // The least by numbers goes first, so 0, which a later one makes too full, goes behind 1 and ahead of 2.
        GingerArmy y = told("u00;b0000;b0001;b0002;p008;p111;p211;");
        due("days(1)", y.days(1), 0);
        due("0: 8 and 6", y.bottleOf(0, 3), 14);
        due("1: 11", y.bottleOf(1, 3), 11);
        due("2: 11, 6 by 1, 6 by 0", y.bottleOf(2, 3), 23);
        // All eight in one day, each by its own press.
        GingerArmy w = told("b0000;b0001;b0002;b0003;b0004;b0005;b0006;b0007;d06;");
        due("none of eight", w.count(4), 0);
        // All shocks are held at 99 too.
        GingerArmy z = told("u00;b2000;b3901;b3902;p090;p199;p299;");
        due("days(1)", z.days(1), 1);
        due("lemon", z.bottleOf(0, 3), 99);
    }

    private static void p11Back() {
        GingerArmy x = new GingerArmy();
        due("back of none", x.back(), -3);
        due("refusals", x.count(13), 1);
        due("bottle", x.bottle(0, 5, 0), 0);
        due("feeds", x.feeds(0, 3), 2);
        due("feeds", x.feeds(1, 4), 0);
        due("towels", x.towels(0), 1);
        due("days", x.days(2), 1);
        due("outs", x.outs(0), 10);
        due("days", x.days(4), 0);
        due("back", x.back(), 5);
        due("whole", x.count(4), 1);
        due("day", x.count(1), 2);
        due("press", x.bottleOf(0, 3), 0);
        due("back", x.back(), 4);
        due("press", x.bottleOf(0, 3), 10);
        due("back", x.back(), 3);
        due("day", x.count(1), 0);
        due("back", x.back(), 2);
        due("towel", x.bottleOf(0, 5), 0);
        due("back", x.back(), 1);
        due("heat", x.count(3), 0);
        due("rises", x.bottleOf(0, 6), 3);
        due("back", x.back(), 0);
        due("sugar", x.count(2), 2);
        due("rises", x.bottleOf(0, 6), 2);
        due("back", x.back(), -3);
        for (int i = 0; i < 10; i++) {
            x.feeds(0, i % 10);
        }
        due("8 at most", x.count(8), 8);
        for (int i = 7; i >= 0; i--) {
            due("back", x.back(), i);
        }
        due("the ninth stays", x.count(2), 1);
        due("back", x.back(), -3);
        x.feeds(0, 1);
        due("all stays as it was", x.count(8), 1);
        due("image", x.image(), 0);
        due("an image leaves it", x.count(8), 1);
        x.restore();
        due("restore leaves none", x.count(8), 0);
        due("back", x.back(), -3);
    }

    private static void p12PressIn() {
        GingerArmy x = twoNear();
        due("pressIn(0, 0)", x.pressIn(0, 0), 0);
        due("pressIn(0, 7)", x.pressIn(0, 7), 14);
        due("pressIn(0, 8)", x.pressIn(0, 8), 16);
        due("pressIn(0, 60)", x.pressIn(0, 60), 16);
        due("pressIn(1, 8)", x.pressIn(1, 8), 22);
        due("all stays", x.bottleOf(1, 3), 0);
        due("day", x.count(1), 0);
        due("pressIn(2, -1)", x.pressIn(2, -1), -1);
        due("pressIn(-1, 61)", x.pressIn(-1, 61), -1);
        due("pressIn(0, -1)", x.pressIn(0, -1), -4);
        due("pressIn(0, 61)", x.pressIn(0, 61), -6);
        x.days(8);
        due("of a burst one", x.pressIn(1, 9), 22);
        due("refusals", 10000 * x.count(11) + 100 * x.count(14) + x.count(16), 20101);
        GingerArmy y = told("b4000;" + "d60;".repeat(16) + "d39;u00;u20;o0;");
        due("days may pass 999 in mind", y.pressIn(0, 60), 60);
    }

    private static void p13Then() {
        GingerArmy x = told("b0500;b0902;b2014;p207;");
        due("then(0, 0)", x.then(0, 0), 7);
        due("then(0, 1)", x.then(0, 1), 7);
        due("then(7, 1)", x.then(7, 1), 35);
        due("then(7, 2)", x.then(7, 2), 3);
        due("then(8, 0)", x.then(8, 0), 4);
        due("then(8, 1)", x.then(8, 1), 7);
        due("then(60, 2)", x.then(60, 2), 1);
        due("then(-1, 9)", x.then(-1, 9), -4);
        due("then(61, 9)", x.then(61, 9), -6);
        due("then(60, 3)", x.then(60, 3), -2);
        due("then(0, -1)", x.then(0, -1), -2);
        due("refusals", 10000 * x.count(12) + 100 * x.count(14) + x.count(16), 20101);
        GingerArmy y = told("b0000;p099;");
        due("0 days on none goes", y.then(0, 2), 1);
    }

    private static void p14Goes() {
        GingerArmy x = told("b2014;b0900;b0502;");
        due("goes(0)", x.goes(0), -9);
        due("goes(1)", x.goes(1), 8);
        due("goes(2)", x.goes(2), 8);
        due("the first, of two the least", x.goes(-1), 1);
        due("goes(-2)", x.goes(-2), -1);
        due("goes(3)", x.goes(3), -1);
        due("goes(LOW)", x.goes(LOW), -1);
        x.days(8);
        due("goes(1) burst", x.goes(1), 0);
        due("no other goes", x.goes(-1), -9);
        due("refusals", x.count(11), 3);
        GingerArmy y = told("u01;b0914;b0500;b4007;");
        due("no rise", y.goes(1), -9);
        due("none is first", y.goes(-1), -9);
        due("feeds", y.feeds(0, 1), 0);
        due("goes(0)", y.goes(0), 20);
        due("the first by days", y.goes(-1), 1);
        // A STONE of 9 bears 38 and rises 1.
        GingerArmy z = told("b1900;b1905;p001;");
        due("goes(0)", z.goes(0), 38);
        due("goes(1)", z.goes(1), 39);
        due("a roman without figure by a sugar of 1", told("u10;b5000;").goes(0), -9);
        due("a plant", told("b4000;p040;").goes(0), -9);
        due("a rise of 1 from nothing", told("u10;b0900;").goes(0), 20);
    }

    private static void p15Quiet() {
        GingerArmy x = new GingerArmy();
        due("none", x.quiet(), 60);
        x.bottle(0, 5, 0);
        due("7 ahead, 52 behind", x.quiet(), 52);
        // A STONE of 9 goes in the 39th day: 7, 30 and 21 days are quiet.
        x.bottle(1, 9, 14);
        due("30 between", x.quiet(), 30);
        // Rising 1 from nothing, a STONE of 9 is behind 38 days at 38.
        GingerArmy y = told("b1905;");
        due("38 ahead", y.quiet(), 38);
        y.days(39);
        due("one that is burst already", y.quiet(), 60);
    }

    private static void p16Takes() {
        GingerArmy x = twoNear();
        due("takes(0) now", x.takes(0), 0);
        x.days(7);
        due("takes(0)", x.takes(0), 2);
        due("takes(1)", x.takes(1), 1);
        due("all stays", x.count(4), 3);
        due("takes(2)", x.takes(2), -1);
        due("takes(-1)", x.takes(-1), -1);
        x.days(1);
        due("takes(0) burst", x.takes(0), -3);
        due("refusals", 100 * x.count(11) + x.count(13), 201);
        // One after another along the shelf, but for one under a towel and one too far off.
        GingerArmy y = told("b0000;b0002;b0004;b0006;b0009;p005;p105;p205;p305;p405;");
        due("takes(0)", y.takes(0), 14);
        due("takes(4)", y.takes(4), 0);
        y.towels(2);
        due("takes(0)", y.takes(0), 2);
        due("takes(3)", y.takes(3), 0);
    }

    private static void p17Worst() {
        GingerArmy x = told("b2014;b0902;b0500;");
        due("none takes one", x.worst(0), 0);
        due("how many", x.worst(1), 0);
        x.days(7);
        due("the least of two", x.worst(0), 1);
        due("how many", x.worst(1), 1);
        due("worst(2)", x.worst(2), -2);
        due("worst(-1)", x.worst(-1), -2);
        due("refusals", x.count(12), 2);
        // The PLANT of 9 shocks more than a BOTTLE.
        GingerArmy y = told("b0000;b4902;b0003;p004;p204;");
        due("worst(0)", y.worst(0), 1);
        due("worst(1)", y.worst(1), 2);
        GingerArmy z = told("b0000;p099;d01;");
        due("none whole", z.worst(0), -9);
        due("none whole", z.worst(1), -9);
    }

    private static void p18Safe() {
        GingerArmy x = twoNear();
        due("safe(1, 8)", x.safe(1, 8), 3);
        due("safe(0, 8)", x.safe(0, 8), 5);
        due("safe(1, 7)", x.safe(1, 7), 1);
        due("its own place", x.safe(0, 7), 0);
        due("all stays", x.bottleOf(0, 2), 0);
        due("safe(2, -1)", x.safe(2, -1), -1);
        due("safe(-1, 61)", x.safe(-1, 61), -1);
        due("safe(0, -1)", x.safe(0, -1), -4);
        due("safe(0, 61)", x.safe(0, 61), -6);
        x.days(8);
        due("safe(0, 0)", x.safe(0, 0), -3);
        due("safe(0, -1)", x.safe(0, -1), -4);
        due("safe(0, 61)", x.safe(0, 61), -6);
        due("refusals", 1000000 * x.count(11) + 10000 * x.count(14) + 100 * x.count(16) + x.count(13), 2020201);
        due("a bottle", x.bottle(2, 0, 4), 2);
        due("a burst one's place is free", x.safe(2, 60), 0);
    }

    private static void p19Towel() {
        GingerArmy x = twoNear();
        due("towel(8)", x.towel(8), 1);
        due("no more than else", x.towel(7), -9);
        due("no more than else", x.towel(60), -9);
        due("all stays", x.bottleOf(1, 5), 0);
        x.towels(1);
        due("under one already", x.towel(8), -9);
        due("towel(-1)", x.towel(-1), -4);
        due("towel(61)", x.towel(61), -6);
        due("refusals", 100 * x.count(14) + x.count(16), 101);
        GingerArmy y = told("b0900;b0001;b0902;");
        due("of two the least", y.towel(6), -9);
        GingerArmy z = told("b0900;b0001;b0902;p003;p203;");
        due("of two the least", z.towel(6), 0);
        z.towels(0);
        due("the other", z.towel(6), 2);
    }

    private static void p20Spoon() {
        GingerArmy x = told("b0500;b1905;b2014;");
        // Behind 4 days the first bears a sugar of 3, the second one of 9 (32), behind 5 days one of 8 (35).
        due("spoon(4, 0)", x.spoon(4, 0), 3);
        due("spoon(4, 1)", x.spoon(4, 1), 3);
        due("spoon(5, 0)", x.spoon(5, 0), 3);
        due("spoon(60, 0)", x.spoon(60, 0), 0);
        due("spoon(60, 1)", x.spoon(60, 1), 3);
        due("spoon(0, 0)", x.spoon(0, 0), 9);
        x.feeds(1, 2);
        due("with heat", x.spoon(4, 0), 2);
        due("with heat", x.spoon(60, 1), 2);
        due("all stays", x.count(2), 2);
        due("spoon(-1, 2)", x.spoon(-1, 2), -4);
        due("spoon(61, 2)", x.spoon(61, 2), -6);
        due("spoon(60, 2)", x.spoon(60, 2), -2);
        due("spoon(0, -1)", x.spoon(0, -1), -2);
        due("refusals", 10000 * x.count(12) + 100 * x.count(14) + x.count(16), 20101);
    }

    private static void p21Out() {
        GingerArmy x = twoNear();
        due("of no use", x.out(8), -9);
        x.days(7);
        due("out(1)", x.out(1), 0);
        due("out(0)", x.out(0), -9);
        due("all stays", x.bottleOf(0, 3), 14);
        due("out(-1)", x.out(-1), -4);
        due("out(61)", x.out(61), -6);
        due("refusals", 100 * x.count(14) + x.count(16), 101);
        GingerArmy y = told("b2000;b0005;b0010;p110;p210;");
        due("of two the least", y.out(1), 1);
        due("let out to nothing", told("u50;b0000;p003;").out(2), 0);
        due("none", new GingerArmy().out(60), -9);
    }

    private static void p22Ready() {
        GingerArmy x = told("b0500;b2014;");
        due("ready(0, 12, 4)", x.ready(0, 12, 4), 3);
        due("ready(0, 15, 5)", x.ready(0, 15, 5), 3);
        due("burst ahead of it", x.ready(0, 15, 4), -9);
        due("ready(0, 16, 60)", x.ready(0, 16, 60), -9);
        due("ready(0, 0, 60)", x.ready(0, 0, 60), 0);
        due("ready(0, 9, 1)", x.ready(0, 9, 1), 9);
        due("ready(0, 10, 1)", x.ready(0, 10, 1), -9);
        due("ready(1, 1, 60)", x.ready(1, 1, 60), -9);
        due("all stays", x.count(2), 2);
        x.feeds(1, 4);
        due("with heat", x.ready(0, 12, 4), 1);
        due("ready(2, -1, -1)", x.ready(2, -1, -1), -1);
        due("ready(-1, 100, 61)", x.ready(-1, 100, 61), -1);
        due("ready(0, 100, -1)", x.ready(0, 100, -1), -4);
        due("ready(0, -1, 61)", x.ready(0, -1, 61), -4);
        due("ready(0, 100, 0)", x.ready(0, 100, 0), -6);
        due("ready(0, 99, 61)", x.ready(0, 99, 61), -6);
        due("ready(0, 99, 60)", x.ready(0, 99, 60), -9);
        due("refusals", 10000 * x.count(11) + 100 * x.count(14) + x.count(16), 20202);
        x.days(8);
        due("of a burst one", x.ready(0, 0, 0), -9);
    }

    private static void p23FeedFor() {
        GingerArmy x = told("b1900;b4905;b0914;");
        // A STONE rises 8 by a sugar of 9 and none by none: 8, 16, 24, 32, and in the 5th day 40 is too much.
        due("feedFor(0, 0)", x.feedFor(0, 0), 0);
        due("feedFor(0, 8)", x.feedFor(0, 8), 1);
        due("feedFor(0, 9)", x.feedFor(0, 9), 2);
        due("feedFor(0, 32)", x.feedFor(0, 32), 4);
        due("feedFor(0, 33)", x.feedFor(0, 33), -9);
        due("feedFor(1, 30)", x.feedFor(1, 30), 30);
        due("feedFor(1, 31)", x.feedFor(1, 31), -9);
        due("feedFor(2, 18)", x.feedFor(2, 18), 2);
        due("feedFor(2, 19)", x.feedFor(2, 19), -9);
        due("all stays", x.count(2), 2);
        due("as it is", told("b2000;p099;").feedFor(0, 99), 0);
        x.feeds(1, 4);
        // With heat a STONE rises 1 by no sugar and 10 by 9.
        due("feedFor(0, 30)", x.feedFor(0, 30), 0);
        due("feedFor(0, 31)", x.feedFor(0, 31), 1);
        due("feedFor(0, 38)", x.feedFor(0, 38), 1);
        due("feedFor(3, -1)", x.feedFor(3, -1), -1);
        due("feedFor(-1, 100)", x.feedFor(-1, 100), -1);
        due("feedFor(0, -1)", x.feedFor(0, -1), -4);
        due("feedFor(0, 100)", x.feedFor(0, 100), -6);
        due("refusals", 10000 * x.count(11) + 100 * x.count(14) + x.count(16), 20101);
        x.days(5);
        due("of a burst one", x.feedFor(2, 0), -9);
    }

    private static void p24Move() {
        // The first goes in the 6th day and takes the second; the lemon bears all.
        GingerArmy x = told("b0000;b0401;b2010;");
        due("of two the first", x.move(6), 2);
        due("none goes yet", x.move(5), -9);
        due("all stays", x.bottleOf(0, 2), 0);
        due("move(-1)", x.move(-1), -4);
        due("move(61)", x.move(61), -6);
        due("refusals", 100 * x.count(14) + x.count(16), 101);
        GingerArmy y = told("b0000;b0401;b2003;");
        due("the one that helps", y.move(6), 12);
        due("both are moved", told("b2014;b0000;b0401;").move(6), 1);
        due("none helps", told("b0000;b0401;").move(6), -9);
        due("none is there", new GingerArmy().move(60), -9);
    }

    private static void p25Halved() {
        GingerArmy x = told("b0500;");
        // 12 behind 6 days, 6 ahead of the 7th, 8 behind it, 16 behind 11.
        due("halved", x.halved(), 11);
        due("a lemon", told("b2500;").halved(), -9);
        due("none", new GingerArmy().halved(), -9);
        // 1 a day: 6, halved 3, 10 behind 13, halved 5, 12 behind 20, halved 6, 13 behind 27, then 13 always.
        due("a stone", told("b1000;").halved(), -9);
        due("a bottle that rises 1 in a day", told("u10;b0200;").halved(), 27);
        due("a bottle that rises 1 in a day", told("u10;b0300;").halved(), -9);
        due("ahead of the 7th", told("b0200;").halved(), 10);
        due("in the 6th", told("b0100;b0005;").halved(), 6);
        GingerArmy y = told("b0000;b0914;p099;d01;");
        // The other presses 2 now: 14 behind 6 days, halved 7, and 21 is above 19 behind 13.
        due("one burst already", y.halved(), 13);
    }

    private static void p26WhoWent() {
        GingerArmy x = told("b0500;b0902;b2014;d07;");
        due("an empty row", x.whoWent(), 7);
        rows(x, 2, 0);
        due("2, 0", x.whoWent(), 4);
        rows(x, 2, 1);
        due("2, 1", x.whoWent(), 0);
        rows(x, 1, 1);
        due("1, 1", x.whoWent(), 3);
        rows(x, 2);
        due("2", x.whoWent(), 4);
        rows(x, 2, 0, 0);
        due("2, 0, 0", x.whoWent(), 4);
        due("the row stays", x.count(7), 3);
        rows(x, 3);
        due("3", x.whoWent(), 0);
        due("all stays", x.count(4), 7);
    }

    private static void p27WhatKind() {
        GingerArmy x = told("b0500;");
        due("an empty row, kinds", x.whatKind(0, 0), 63);
        due("an empty row, figures", x.whatKind(0, 1), 1023);
        rows(x, 0, 2, 4);
        due("kinds", x.whatKind(0, 0), 9);
        due("figures", x.whatKind(0, 1), 1023);
        rows(x, 0, 0);
        due("kinds", x.whatKind(0, 0), 4);
        due("figures", x.whatKind(0, 1), 0);
        rows(x, 0, 4);
        due("kinds", x.whatKind(0, 0), 32);
        rows(x, 0, 1, 2, 3);
        due("kinds", x.whatKind(0, 0), 18);
        due("the row stays", x.count(7), 4);
        x.feeds(0, 9);
        rows(x, 0, 9, 18, 18);
        due("figures", x.whatKind(0, 1), 255);
        due("kinds", x.whatKind(0, 0), 1);
        due("all stays", x.bottleOf(0, 1), 5);
        due("whatKind(1, 2)", x.whatKind(1, 2), -1);
        due("whatKind(-1, 0)", x.whatKind(-1, 0), -1);
        due("whatKind(0, 2)", x.whatKind(0, 2), -2);
        due("whatKind(0, -1)", x.whatKind(0, -1), -2);
        due("refusals", 100 * x.count(11) + x.count(12), 202);
        GingerArmy y = told("u70;b3700;");
        rows(y, 0, 8);
        due("figures of a raisin: 6, 7, 8", y.whatKind(0, 1), 448);
        due("kinds of a figure of 7", y.whatKind(0, 0), 8);
        rows(y, 0, 6);
        due("figures of a raisin: 0, 1, 2", y.whatKind(0, 1), 7);
    }

    private static void p28Two() {
        GingerArmy x = twoNearPressing();
        due("two(0, 1, 1)", x.two(0, 1, 1), 10);
        due("two(1, 0, 1)", x.two(1, 0, 1), 1);
        due("none need", x.two(0, 1, 0), 0);
        due("all stays", x.bottleOf(0, 3), 14);
        due("one twice", x.two(0, 0, -1), -1);
        due("two(0, 2, -1)", x.two(0, 2, -1), -1);
        due("two(-1, 0, 61)", x.two(-1, 0, 61), -1);
        due("two(0, 1, -1)", x.two(0, 1, -1), -4);
        due("two(0, 1, 61)", x.two(0, 1, 61), -6);
        x.days(1);
        due("two burst", x.two(0, 1, 0), -3);
        due("two burst", x.two(0, 1, 61), -6);
        due("refusals", 1000000 * x.count(11) + 10000 * x.count(14) + 100 * x.count(16) + x.count(13), 3010201);
        due("both must be let out", told("b0000;b0010;p010;p110;").two(0, 1, 1), 11);
        // The first goes at once and shocks the other to 14, or is let out and gets the other's shock but if both are let out.
        due("the other's choice rests on the one's", told("u30;b0900;b1102;p025;p128;").two(0, 1, 4), 11);
        due("none has it better alone", told("u30;b0400;b0402;p028;p108;").two(0, 1, 4), 0);
        due("the other alone", told("u20;b1300;b1502;b1104;p004;p129;p216;").two(0, 1, 4), 1);
        GingerArmy y = told("b2000;b0010;p099;p199;d01;");
        due("the other is burst", y.two(0, 1, 1), -3);
        due("the one is burst", y.two(1, 0, 1), -3);
    }

    private static void p29Thunders() {
        GingerArmy x = told("b0000;b2914;");
        // A day presses 2, with thunder 6; 10 is borne.
        due("2 days, above", x.thunders(0, 2, 2, 0), 3);
        due("2 days, below", x.thunders(0, 2, 2, 1), 4);
        due("1 in 3, above", x.thunders(0, 2, 3, 0), 8);
        due("1 in 3, below", x.thunders(0, 2, 3, 1), 9);
        due("3 days, above", x.thunders(0, 3, 2, 0), 1);
        due("3 days, below", x.thunders(0, 3, 2, 1), 2);
        due("none, above", x.thunders(0, 0, 20, 0), 1);
        due("none, below", x.thunders(0, 0, 20, 1), 1);
        due("never, above", x.thunders(0, 7, 20, 0), 0);
        due("never, below", x.thunders(0, 7, 20, 1), 1);
        due("a lemon, above", x.thunders(1, 7, 20, 0), 1);
        due("a lemon, below", x.thunders(1, 7, 20, 1), 1);
        // 5 days without thunder: 19 in 20 to the fifth.
        due("1 in 20, above", x.thunders(0, 5, 20, 0), 2476099);
        due("1 in 20, below", x.thunders(0, 5, 20, 1), 3200000);
        due("all stays", x.count(3), 0);
        x.feeds(1, 9);
        due("hot as it is", x.thunders(0, 2, 2, 0), 0);
        due("refused", x.thunders(2, -1, 1, 2), LONG + 1);
        due("refused", x.thunders(-1, 8, 21, 2), LONG + 1);
        due("refused", x.thunders(0, -1, 21, 2), LONG + 4);
        due("refused", x.thunders(0, 8, 1, 2), LONG + 4);
        due("refused", x.thunders(0, 8, 2, 2), LONG + 6);
        due("refused", x.thunders(0, 7, 21, 2), LONG + 6);
        due("refused", x.thunders(0, 7, 20, 2), LONG + 2);
        due("refused", x.thunders(0, 0, 2, -1), LONG + 2);
        due("refusals", 1000000 * x.count(11) + 10000 * x.count(12) + 100 * x.count(14) + x.count(16), 2020202);
        x.days(9);
        due("of a burst one, above", x.thunders(0, 0, 2, 0), 0);
        due("of a burst one, below", x.thunders(0, 0, 2, 1), 1);
    }

    private static void p30Shares() {
        GingerArmy x = new GingerArmy();
        due("shares(3, 0)", x.shares(3, 0), 0);
        due("shares(3, 1)", x.shares(3, 1), 2);
        x.feeds(0, 9);
        due("shares(4, 0)", x.shares(4, 0), 2);
        due("shares(4, 1)", x.shares(4, 1), 1);
        due("shares(1, 0)", x.shares(1, 0), 9);
        due("shares(9, 1)", x.shares(9, 1), 0);
        due("shares(0, 2)", x.shares(0, 2), -4);
        due("shares(LOW, 0)", x.shares(LOW, 0), -4);
        due("shares(10, 2)", x.shares(10, 2), -6);
        due("shares(9, 2)", x.shares(9, 2), -2);
        due("shares(1, -1)", x.shares(1, -1), -2);
        due("refusals", 10000 * x.count(12) + 100 * x.count(14) + x.count(16), 20201);
    }

    private static void p31Tightest() {
        GingerArmy x = told("b2900;b0505;b0010;p107;p202;");
        due("of two the least", x.tightest(0), 1);
        due("gap", x.tightest(1), 4);
        due("lost", x.tightest(2), 0);
        x.outs(1);
        due("the other", x.tightest(0), 2);
        due("tightest(3)", x.tightest(3), -2);
        due("tightest(-1)", x.tightest(-1), -2);
        due("refusals", x.count(12), 2);
        x.days(8);
        due("lost", x.tightest(2), 2);
        due("the lemon", x.tightest(0), 0);
        due("gap", x.tightest(1), 14);
        due("pressing above what it bears", told("b0000;b0005;p099;p120;").tightest(0), 0);
        due("none", new GingerArmy().tightest(0), -9);
    }

    private static void p32Near() {
        GingerArmy x = told("b0005;b2003;b2007;b2002;b2008;b2004;");
        due("near(0)", x.near(0), 38);
        due("near(3)", x.near(3), 34);
        due("near(4)", x.near(4), 4);
        due("near(6)", x.near(6), -1);
        due("near(-1)", x.near(-1), -1);
        due("refusals", x.count(11), 2);
        x.days(6);
        due("near a burst one", x.near(0), 38);
        due("a burst one is near none", x.near(1), 40);
    }

    private static void p33Mean() {
        GingerArmy x = new GingerArmy();
        due("of none, above", x.mean(0), 0);
        due("of none, below", x.mean(1), 1);
        tell(x, "b0500;b0902;b2014;");
        due("0, above", x.mean(0), 0);
        due("0, below", x.mean(1), 1);
        x.days(7);
        due("28 over 3, above", x.mean(0), 28);
        due("28 over 3, below", x.mean(1), 3);
        x.outs(0);
        x.towels(1);
        tell(x, "p207;");
        due("21 over 3, above", x.mean(0), 7);
        due("21 over 3, below", x.mean(1), 1);
        x.days(3);
        // The second went at 20 and shocked the first, which pressed 6.
        due("2 whole, above", x.mean(0), 19);
        due("2 whole, below", x.mean(1), 2);
        due("mean(2)", x.mean(2), LONG + 2);
        due("mean(-1)", x.mean(-1), LONG + 2);
        due("refusals", x.count(12), 2);
    }

    private static void p34Spare() {
        GingerArmy x = told("b0500;b1905;p007;p150;");
        due("spare(0)", x.spare(0), 8);
        due("not below 0", x.spare(1), 0);
        due("spare(2)", x.spare(2), -1);
        due("spare(-1)", x.spare(-1), -1);
        due("refusals", x.count(11), 2);
    }

    private static void p35Pairs() {
        GingerArmy x = told("b0500;b0902;b0204;b2006;p008;p108;p210;p399;");
        due("pairs near", x.pairs(0), 3);
        // The third bears 12 and presses 10: a heat of 1 is cut to nothing.
        due("calm", x.pairs(1), 1);
        due("loud now", x.pairs(2), 0);
        x.feeds(1, 2);
        // 13 goes, 11 and 6 is no more than 19.
        due("loud", x.pairs(2), 1);
        due("calm is of any heat", x.pairs(1), 1);
        due("end", x.pairs(3), -9);
        due("pairs(4)", x.pairs(4), -2);
        due("pairs(-1)", x.pairs(-1), -2);
        due("refusals", x.count(12), 2);
        due("all stays", x.count(4), 15);
        due("never calm", told("b0000;p009;").pairs(1), -9);
        due("always calm", told("b2000;p099;").pairs(1), 9);
        GingerArmy y = told("b0500;b0905;");
        due("end", y.pairs(3), 10);
        due("loud", y.pairs(2), 0);
        y.days(10);
        due("all are burst", y.pairs(3), 0);
        due("none is near", y.pairs(0), 0);
        due("calm", y.pairs(1), 9);
        due("all but the last", told("u20;b1900;p001;").pairs(3), 38);
        due("behind 60 days at the latest", told("u00;b0000;").pairs(3), -9);
    }

    private static void p36Eased() {
        GingerArmy x = twoNear();
        due("eased(1, 0, 8)", x.eased(1, 0, 8), 6);
        due("eased(1, 0, 7)", x.eased(1, 0, 7), 0);
        due("eased(0, 1, 60)", x.eased(0, 1, 60), 0);
        due("one twice", x.eased(0, 0, -1), EASED + 1);
        due("eased(0, 2, 0)", x.eased(0, 2, 0), EASED + 1);
        due("eased(-1, 0, 61)", x.eased(-1, 0, 61), EASED + 1);
        due("eased(0, 1, -1)", x.eased(0, 1, -1), EASED + 4);
        due("eased(0, 1, 61)", x.eased(0, 1, 61), EASED + 6);
        due("refusals", 10000 * x.count(11) + 100 * x.count(14) + x.count(16), 30101);
        GingerArmy y = told("u90;b0000;b0902;");
        // With the first it goes at 24, without at 27.
        due("below 0", y.eased(1, 0, 3), -3);
        due("all stays", y.count(4), 3);
        y.days(2);
        due("burst already", y.eased(1, 0, 60), 0);
    }

    private static void p37Officers() {
        GingerArmy x = told("b0000;b0001;b1002;b2003;b3004;b4005;b5006;");
        due("officers(0)", x.officers(0), 2);
        for (int kind = 1; kind < 6; kind++) {
            due("officers(" + kind + ")", x.officers(kind), 1);
        }
        due("officers(-1)", x.officers(-1), -2);
        due("officers(6)", x.officers(6), -2);
        due("refusals", x.count(12), 2);
        tell(x, "u00;p099;d01;");
        due("officers(0)", x.officers(0), 1);
    }

    private static void p38Row() {
        GingerArmy x = new GingerArmy();
        due("row(-1)", x.row(-1), -4);
        due("row(100)", x.row(100), -6);
        for (int i = 1; i <= 12; i++) {
            due("row", x.row(i == 1 ? 0 : 99), i);
        }
        due("a 13th", x.row(0), -6);
        due("row(-1)", x.row(-1), -4);
        due("in the row", x.count(7), 12);
        due("refusals", 100 * x.count(14) + x.count(16), 202);
    }

    private static void p39Judge() {
        GingerArmy x = told("b0500;b0905;b2014;p207;d07;");
        rows(x, 14, 14, 7);
        due("all as it is", x.judge(), -9);
        due("the row has none", x.count(7), 0);
        rows(x, 14, 13, 8);
        due("the second", x.judge(), 1);
        due("the row has none", x.count(7), 0);
        rows(x, 13, 14, 7);
        due("the first", x.judge(), 0);
        rows(x, 14, 14, 7, 0);
        due("none there", x.judge(), 3);
        rows(x, 14);
        due("the first alone", x.judge(), -9);
        due("an empty row", x.judge(), -9);
        x.days(2);
        rows(x, 16, 18);
        due("of a burst one", x.judge(), -9);
    }

    private static void p40Clear() {
        GingerArmy x = new GingerArmy();
        due("clear", x.clear(), 0);
        x.row(5);
        x.row(6);
        due("clear", x.clear(), 2);
        due("in the row", x.count(7), 0);
        due("row", x.row(1), 1);
    }

    private static void p41Lots() {
        GingerArmy x = told("u00;b1900;b0014;");
        // Draws in longs, held to 32 bits by hand.
        for (int n : new int[] {1, 2, 20}) {
            for (int seed : new int[] {0, 5, -1, 123456789, LOW, HIGH}) {
                due("press of " + n + " summers by " + seed, x.lots(n, seed, 1), pressOfSummers(n, seed));
            }
        }
        due("the lemon and the plant", told("b2000;b4005;").lots(20, 77, 0), 40);
        due("the lemon and the plant", told("b2000;b4005;").lots(20, 77, 1), 200);
        due("all stays", x.count(3), 0);
        due("lots(0, 0, 2)", x.lots(0, 0, 2), -4);
        due("lots(21, 0, 2)", x.lots(21, 0, 2), -6);
        due("lots(20, 0, 2)", x.lots(20, 0, 2), -2);
        due("lots(1, 0, -1)", x.lots(1, 0, -1), -2);
        due("refusals", 10000 * x.count(12) + 100 * x.count(14) + x.count(16), 20101);
    }

    /** By a sugar of 0: a STONE of 9 that never goes, and a BOTTLE of 0 that goes above 10. */
    private static int pressOfSummers(int n, int seed) {
        long z = seed & 0xffffffffL;
        int sum = 0;
        for (int summer = 0; summer < n; summer++) {
            int stone = 0;
            int bottle = 0;
            for (int d = 0; d < 10; d++) {
                z = (z * 1103515245L + 12345L) % 4294967296L;
                int heat = (int) (z % 2147483648L / 65536L % 10L);
                stone += Math.max(0, heat / 2 - 1);
                if (bottle <= 10) bottle += heat / 2;
            }
            sum += stone + (bottle <= 10 ? bottle : 0);
        }
        return sum;
    }

    private static void p42Image() {
        GingerArmy x = twoNear();
        due("image", x.image(), 0);
        x.days(7);
        due("image", x.image(), 7);
        x.days(1);
        due("restore", x.restore(), 7);
        due("whole", x.count(4), 3);
        due("the later image", x.bottleOf(0, 3), 14);
    }

    private static void p43Restore() {
        GingerArmy x = new GingerArmy();
        due("restore of none", x.restore(), -3);
        due("refusals", x.count(13), 1);
        tell(x, "u34;b0500;d01;t0;");
        x.feed('u');
        x.row(4);
        due("image", x.image(), 1);
        x.feed('1');
        x.row(5);
        x.bottle(1, 1, 1);
        x.feeds(0, 9);
        x.feeds(1, 9);
        x.towels(0);
        x.days(2);
        due("to take back", x.count(8), 4);
        due("refused", x.at(99), -1);
        due("restore", x.restore(), 1);
        due("bottles", x.count(0), 1);
        due("sugar", x.count(2), 3);
        due("heat", x.count(3), 4);
        due("press", x.bottleOf(0, 3), 5);
        due("rises", x.bottleOf(0, 6), 5);
        due("towel", x.bottleOf(0, 5), 1);
        due("letters stay", x.count(6), 2);
        due("the row stays", x.count(7), 2);
        due("refusals stay", x.count(11), 1);
        due("none to take back", x.count(8), 0);
        x.days(1);
        due("restore again", x.restore(), 1);
        due("day", x.count(1), 1);
    }

    private static void p44Count() {
        GingerArmy x = told("u93;b0500;b2014;p107;d02;");
        x.feed('x');
        x.feed('y');
        x.feed('z');
        x.row(1);
        x.feeds(0, 8);
        x.feeds(0, 7);
        x.towels(1);
        x.at(-1);
        x.worst(9);
        x.worst(9);
        x.outs(0);
        x.shares(0, 0);
        x.shares(10, 0);
        x.shares(10, 0);
        // 20 in two days is above 15.
        int[] counts = {2, 2, 7, 3, 2, 7, 3, 1, 3};
        for (int what = 0; what < counts.length; what++) {
            due("count(" + what + ")", x.count(what), counts[what]);
        }
        int[] refusals = {1, 2, 1, 1, 0, 2};
        for (int i = 0; i < refusals.length; i++) {
            due("count(" + (11 + i) + ")", x.count(11 + i), refusals[i]);
        }
        for (int what : new int[] {-1, 9, 10, 17, 100, LOW, HIGH}) {
            due("count(" + what + ")", x.count(what), -9);
        }
    }
}
