/** The boundaries that part I of the document and promises 1 to 11 name, each sentence by a test of its own. */
final class ShelfBoundaries extends Cellars {
    private ShelfBoundaries() {
    }

    static void run() {
        p01NewObject();
        p02Feed();
        p04BottleOf();
        p04Rises();
        p04BearsAndShocks();
        p05At();
        p06Bottle();
        p06BottleAtFirst();
        p07Feeds();
        p08Outs();
        p09Towels();
        p10Days();
        p10Held();
        p10Near();
        p10Going();
        p11Back();
        p11LeavesNone();
    }

    private static void on(int promise, String words, Runnable test) {
        Check.sentence(promise, words, test);
    }

    private static void p01NewObject() {
        on(1, "No BOTTLES", () -> {
            GingerArmy x = new GingerArmy();
            due("bottles", x.count(0), 0);
            due("whole", x.count(4), 0);
            due("press", x.count(5), 0);
            due("bottleOf(0, 0)", x.bottleOf(0, 0), -1);
            for (int place = 0; place <= 14; place++) {
                due("at(" + place + ")", x.at(place), -9);
            }
        });
        on(1, "SUGAR (0 .. 9; 2 at first)", () -> {
            due("sugar", new GingerArmy().count(2), 2);
            due("what it was", new GingerArmy().feeds(0, 9), 2);
        });
        on(1, "HEAT (0 .. 9; 0 at first)", () -> {
            due("heat", new GingerArmy().count(3), 0);
            due("what it was", new GingerArmy().feeds(1, 9), 0);
        });
        on(1, "DAY (0 .. 999; 0 at first)", () -> {
            due("day", new GingerArmy().count(1), 0);
            due("image", new GingerArmy().image(), 0);
        });
        on(1, "no letters, an empty ROW, none to take back, no image, no REFUSALS", () -> {
            GingerArmy x = new GingerArmy();
            for (int what : new int[] {6, 7, 8, 11, 12, 13, 14, 15, 16}) {
                due("count(" + what + ")", x.count(what), 0);
            }
            due("clear", x.clear(), 0);
            due("back", x.back(), -3);
            due("restore", x.restore(), -3);
        });
        on(1, "used for at most 512 calls", () -> {
            GingerArmy x = new GingerArmy();
            for (int call = 1; call <= 510; call++) {
                due("call " + call, x.at(15), -1);
            }
            due("call 511", x.bottle(5, 9, 14), 0);
            due("call 512", x.count(11), 510);
        });
    }

    private static void p02Feed() {
        on(2, "how many there are", () -> {
            GingerArmy x = new GingerArmy();
            due("none", x.count(6), 0);
            due("the first", x.feed('b'), 1);
            due("the second", x.feed('b'), 2);
        });
        on(2, "-4, the least letter is 0", () -> {
            GingerArmy x = new GingerArmy();
            due("feed(0)", x.feed(0), 1);
            due("feed(-1)", x.feed(-1), -4);
            due("letters", x.count(6), 1);
        });
        on(2, "-6 (255), the greatest letter", () -> {
            GingerArmy x = new GingerArmy();
            due("feed(255)", x.feed(255), 1);
            due("feed(256)", x.feed(256), -6);
            due("letters", x.count(6), 1);
        });
        on(2, "-6 (96, too)", () -> {
            GingerArmy x = new GingerArmy();
            for (int i = 1; i <= 96; i++) {
                due("letter " + i, x.feed('0'), i);
            }
            due("one more", x.feed('0'), -6);
            due("letters", x.count(6), 96);
            x.cellar();
            due("room again", x.feed('0'), 1);
        });
        on(2, "-4 ahead of -6 when there are 96", () -> {
            GingerArmy x = new GingerArmy();
            for (int i = 1; i <= 96; i++) {
                x.feed('0');
            }
            due("feed(-1)", x.feed(-1), -4);
            due("feed(256)", x.feed(256), -6);
        });
    }

    private static void p04BottleOf() {
        on(4, "-1, BOTTLES 0 .. as they come", () -> {
            due("none there", new GingerArmy().bottleOf(0, 0), -1);
            GingerArmy x = told("b2900;");
            due("bottleOf(-1, 0)", x.bottleOf(-1, 0), -1);
            due("bottleOf(0, 0)", x.bottleOf(0, 0), 2);
            due("bottleOf(1, 0)", x.bottleOf(1, 0), -1);
        });
        on(4, "-1, the last of 8", () -> {
            GingerArmy x = told(EIGHT_LEMONS);
            due("bottleOf(7, 2)", x.bottleOf(7, 2), 7);
            due("bottleOf(8, 2)", x.bottleOf(8, 2), -1);
        });
        on(4, "-2, what 0 .. 8", () -> {
            GingerArmy x = told("b4700;");
            due("bottleOf(0, -1)", x.bottleOf(0, -1), -2);
            due("bottleOf(0, 0)", x.bottleOf(0, 0), 4);
            due("bottleOf(0, 8)", x.bottleOf(0, 8), 7);
            due("bottleOf(0, 9)", x.bottleOf(0, 9), -2);
        });
        on(4, "PRESS (3) from 0 to 99", () -> {
            GingerArmy x = told("b2000;");
            due("at first", x.bottleOf(0, 3), 0);
            tell(x, "p099;");
            due("at most", x.bottleOf(0, 3), 99);
        });
        on(4, "1 WHOLE (4), a BURST one 0", () -> {
            GingerArmy x = told("b0000;p010;u00;d01;");
            due("at what it bears", x.bottleOf(0, 4), 1);
            tell(x, "p011;d01;");
            due("above it", x.bottleOf(0, 4), 0);
        });
        on(4, "1 under a TOWEL (5)", () -> {
            GingerArmy x = told("b2000;b2001;t1;");
            due("0", x.bottleOf(0, 5), 0);
            due("1", x.bottleOf(1, 5), 1);
        });
    }

    /** Each kind's rise by each heat, and by each figure where it counts. */
    private static void p04Rises() {
        on(4, "BOTTLE SUGAR plus half (cut) of HEAT", () -> {
            rises(0, 0, 0, 0, 0, 1, 1, 2, 2, 3, 3, 4, 4);
            rises(0, 0, 9, 9, 9, 10, 10, 11, 11, 12, 12, 13, 13);
        });
        on(4, "STONE 1 less (0 at least)", () -> {
            rises(1, 0, 0, 0, 0, 0, 0, 1, 1, 2, 2, 3, 3);
            rises(1, 0, 1, 0, 0, 1, 1, 2, 2, 3, 3, 4, 4);
            rises(1, 0, 9, 8, 8, 9, 9, 10, 10, 11, 11, 12, 12);
        });
        on(4, "LEMON 0", () -> {
            rises(2, 9, 0, 0, 0, 0, 0, 0, 0, 0, 0, 0, 0);
            rises(2, 9, 9, 0, 0, 0, 0, 0, 0, 0, 0, 0, 0);
        });
        on(4, "RAISIN FIGURE over 3, cut, more than a STONE", () -> {
            risesByFigure(3, 0, 0, 0, 0, 0, 1, 1, 1, 2, 2, 2, 3);
            risesByFigure(3, 1, 0, 0, 0, 0, 1, 1, 1, 2, 2, 2, 3);
            risesByFigure(3, 9, 9, 12, 12, 12, 13, 13, 13, 14, 14, 14, 15);
        });
        on(4, "PLANT 1 more than a LEMON, if SUGAR is above 0", () -> {
            rises(4, 9, 0, 0, 0, 0, 0, 0, 0, 0, 0, 0, 0);
            rises(4, 9, 1, 1, 1, 1, 1, 1, 1, 1, 1, 1, 1);
            rises(4, 9, 9, 1, 1, 1, 1, 1, 1, 1, 1, 1, 1);
        });
        on(4, "ROMAN twice a RAISIN's", () -> {
            risesByFigure(5, 0, 0, 0, 0, 0, 2, 2, 2, 4, 4, 4, 6);
            risesByFigure(5, 9, 9, 24, 24, 24, 26, 26, 26, 28, 28, 28, 30);
        });
    }

    private static void rises(int kind, int figure, int sugar, int... byHeat) {
        for (int heat = 0; heat <= 9; heat++) {
            GingerArmy x = told("u" + sugar + heat + ";b" + kind + figure + "00;");
            due("kind " + kind + ", sugar " + sugar + ", heat " + heat, x.bottleOf(0, 6), byHeat[heat]);
        }
    }

    private static void risesByFigure(int kind, int sugar, int heat, int... byFigure) {
        for (int figure = 0; figure <= 9; figure++) {
            GingerArmy x = told("b" + kind + figure + "00;u" + sugar + heat + ";");
            due("kind " + kind + ", sugar " + sugar + ", figure " + figure, x.bottleOf(0, 6), byFigure[figure]);
        }
    }

    private static void p04BearsAndShocks() {
        int[] bearsLeast = {10, 20, 99, 15, 99, 15};
        int[] bearsGreatest = {19, 38, 99, 33, 99, 42};
        int[] shocksLeast = {6, 10, 0, 20, 0, 20};
        int[] shocksGreatest = {6, 10, 0, 20, 9, 20};
        String[] words = {"BOTTLE 10 plus FIGURE", "STONE twice a BOTTLE's", "LEMON 99", "RAISIN 5 less than a STONE",
            "PLANT as a LEMON", "ROMAN FIGURE more than a RAISIN"};
        String[] shockWords = {"BOTTLE 6", "STONE 4 more", "LEMON 0", "RAISIN twice a STONE's", "PLANT FIGURE", "ROMAN as a RAISIN"};
        for (int k = 0; k < 6; k++) {
            int kind = k;
            on(4, "BEARS: " + words[kind], () -> {
                due("figure 0", told("b" + kind + "000;").bottleOf(0, 7), bearsLeast[kind]);
                due("figure 9", told("b" + kind + "900;").bottleOf(0, 7), bearsGreatest[kind]);
            });
            on(4, "SHOCKS: " + shockWords[kind], () -> {
                due("figure 0", told("b" + kind + "000;").bottleOf(0, 8), shocksLeast[kind]);
                due("figure 9", told("b" + kind + "900;").bottleOf(0, 8), shocksGreatest[kind]);
            });
        }
    }

    private static void p05At() {
        on(5, "-1, PLACES 0 .. 14", () -> {
            GingerArmy x = told("b2000;b2014;");
            due("at(-1)", x.at(-1), -1);
            due("at(0)", x.at(0), 0);
            due("at(14)", x.at(14), 1);
            due("at(15)", x.at(15), -1);
        });
        on(5, "-9, none in it", () -> {
            GingerArmy x = told("b2001;b2013;");
            due("at(0)", x.at(0), -9);
            due("at(7)", x.at(7), -9);
            due("at(14)", x.at(14), -9);
        });
        on(5, "the WHOLE one, not the BURST one", () -> {
            GingerArmy x = told("b0005;p011;d01;");
            due("burst", x.at(5), -9);
            due("one more there", x.bottle(2, 0, 5), 1);
            due("the whole one", x.at(5), 1);
        });
        on(5, "the last of 8", () -> due("at(7)", told(EIGHT_LEMONS).at(7), 7));
    }

    private static void p06Bottle() {
        on(6, "-2, KINDS 0 .. 5", () -> {
            GingerArmy x = new GingerArmy();
            due("bottle(-1, 0, 0)", x.bottle(-1, 0, 0), -2);
            due("bottle(0, 0, 0)", x.bottle(0, 0, 0), 0);
            due("bottle(5, 0, 1)", x.bottle(5, 0, 1), 1);
            due("bottle(6, 0, 2)", x.bottle(6, 0, 2), -2);
        });
        on(6, "-4 and -6 (9), a FIGURE (0 .. 9)", () -> {
            GingerArmy x = new GingerArmy();
            due("bottle(0, -1, 0)", x.bottle(0, -1, 0), -4);
            due("bottle(0, 0, 0)", x.bottle(0, 0, 0), 0);
            due("bottle(0, 9, 1)", x.bottle(0, 9, 1), 1);
            due("bottle(0, 10, 2)", x.bottle(0, 10, 2), -6);
        });
        on(6, "-6 (8 there are)", () -> {
            GingerArmy x = new GingerArmy();
            for (int i = 0; i <= 7; i++) {
                due("bottle " + i, x.bottle(2, 0, i), i);
            }
            due("a ninth", x.bottle(2, 0, 8), -6);
            due("bottles", x.count(0), 8);
        });
        on(6, "-6 (8 there are), BURST ones too", () -> {
            GingerArmy x = told("b0000;b0001;b0002;b0003;b0004;b0005;b0006;b0007;d60;");
            due("whole", x.count(4), 0);
            due("a ninth", x.bottle(2, 0, 8), -6);
        });
        on(6, "-1 the PLACE 0 .. 14", () -> {
            GingerArmy x = new GingerArmy();
            due("bottle(0, 0, -1)", x.bottle(0, 0, -1), -1);
            due("bottle(0, 0, 0)", x.bottle(0, 0, 0), 0);
            due("bottle(0, 0, 14)", x.bottle(0, 0, 14), 1);
            due("bottle(0, 0, 15)", x.bottle(0, 0, 15), -1);
        });
        on(6, "-3 there is a WHOLE one in it", () -> {
            GingerArmy x = told("b2004;b2000;");
            due("in the first's", x.bottle(2, 0, 4), -3);
            due("in the last's", x.bottle(2, 0, 0), -3);
            due("beside it", x.bottle(2, 0, 3), 2);
            due("under a towel, too", x.towels(0), 1);
            due("in the first's", x.bottle(2, 0, 4), -3);
        });
        on(6, "BURST (its PLACE is free then)", () -> {
            GingerArmy x = told("b0004;p011;");
            due("pressing too much, but whole", x.bottle(2, 0, 4), -3);
            due("days", x.days(1), 0);
            due("burst", x.bottle(2, 0, 4), 1);
        });
    }

    private static void p06BottleAtFirst() {
        on(6, "PRESS (0 .. 99; 0 at first), WHOLE (at first), not under a TOWEL (not at first)", () -> {
            GingerArmy x = told("u99;");
            due("bottle(5, 9, 14)", x.bottle(5, 9, 14), 0);
            int[] first = {5, 9, 14, 0, 1, 0};
            for (int what = 0; what < first.length; what++) {
                due("bottleOf(0, " + what + ")", x.bottleOf(0, what), first[what]);
            }
        });
        on(6, "its number: BOTTLES 0 .. as they come", () -> {
            GingerArmy x = told("b0000;p011;d01;");
            due("behind a burst one", x.bottle(0, 0, 0), 1);
            due("behind a refused one", x.bottle(0, 0, 0), -3);
            due("the next", x.bottle(0, 0, 1), 2);
        });
    }

    private static void p07Feeds() {
        on(7, "-2, what 0, 1", () -> {
            GingerArmy x = new GingerArmy();
            due("feeds(-1, 5)", x.feeds(-1, 5), -2);
            due("feeds(0, 5)", x.feeds(0, 5), 2);
            due("feeds(1, 5)", x.feeds(1, 5), 0);
            due("feeds(2, 5)", x.feeds(2, 5), -2);
        });
        for (int w = 0; w <= 1; w++) {
            int what = w;
            on(7, (what == 0 ? "SUGAR" : "HEAT") + " (0 .. 9), -4 and -6 9", () -> {
                GingerArmy x = new GingerArmy();
                due("9", x.feeds(what, 9), what == 0 ? 2 : 0);
                due("10", x.feeds(what, 10), -6);
                due("0", x.feeds(what, 0), 9);
                due("-1", x.feeds(what, -1), -4);
                due("as it stands", x.count(2 + what), 0);
                due("the other", x.count(3 - what), what == 0 ? 0 : 2);
            });
        }
    }

    private static void p08Outs() {
        on(8, "-1, no such BOTTLE", () -> {
            due("none", new GingerArmy().outs(0), -1);
            GingerArmy x = told(EIGHT_LEMONS);
            due("outs(-1)", x.outs(-1), -1);
            due("outs(0)", x.outs(0), 0);
            due("outs(7)", x.outs(7), 0);
            due("outs(8)", x.outs(8), -1);
        });
        on(8, "-3 it is BURST", () -> {
            GingerArmy x = told("b0000;p011;");
            due("pressing too much, but whole", x.outs(0), 11);
            tell(x, "p011;d01;");
            due("burst", x.outs(0), -3);
            due("its press stays", x.bottleOf(0, 3), 13);
        });
        on(8, "what it PRESSED, 99 at most", () -> {
            GingerArmy x = told("b2000;p099;");
            due("outs(0)", x.outs(0), 99);
            due("press", x.bottleOf(0, 3), 0);
            due("outs(0) of nothing", x.outs(0), 0);
        });
    }

    private static void p09Towels() {
        on(9, "-1, no such BOTTLE", () -> {
            due("none", new GingerArmy().towels(0), -1);
            GingerArmy x = told(EIGHT_LEMONS);
            due("towels(-1)", x.towels(-1), -1);
            due("towels(0)", x.towels(0), 1);
            due("towels(7)", x.towels(7), 1);
            due("towels(8)", x.towels(8), -1);
        });
        on(9, "-3 it is BURST", () -> {
            GingerArmy x = told("b0000;t0;p011;d01;");
            due("burst", x.towels(0), -3);
            due("under it still", x.bottleOf(0, 5), 1);
        });
        on(9, "under a TOWEL, or not: 1, 0", () -> {
            GingerArmy x = told("b2000;");
            due("once", x.towels(0), 1);
            due("twice", x.towels(0), 0);
            due("again", x.towels(0), 1);
        });
    }

    private static void p10Days() {
        on(10, "-4 1, -6 60", () -> {
            GingerArmy x = told("b4000;");
            due("days(0)", x.days(0), -4);
            due("days(1)", x.days(1), 1);
            due("day", x.count(1), 1);
            due("days(60)", x.days(60), 1);
            due("day", x.count(1), 61);
            due("days(61)", x.days(61), -6);
            due("day", x.count(1), 61);
            due("press", x.bottleOf(0, 3), 61);
        });
        on(10, "-6 DAY above 999", () -> {
            GingerArmy x = told("d60;".repeat(15) + "d40;");
            due("day", x.count(1), 940);
            due("to 1000", x.days(60), -6);
            due("to 999", x.days(59), 0);
            due("day", x.count(1), 999);
            due("one more", x.days(1), -6);
        });
        on(10, "DAY (0 .. 999) by 60 at once", () -> {
            GingerArmy x = told("d60;".repeat(15) + "d39;");
            due("to 999", x.days(60), 0);
            due("day", x.count(1), 999);
        });
        on(10, "-4 ahead of -6 at DAY 999", () -> {
            GingerArmy x = told("d60;".repeat(16) + "d39;");
            due("days(0)", x.days(0), -4);
            due("days(LOW)", x.days(LOW), -4);
            due("days(HIGH)", x.days(HIGH), -6);
        });
        on(10, "how many are WHOLE, none and 8", () -> {
            due("none", new GingerArmy().days(1), 0);
            due("8", told(EIGHT_LEMONS).days(60), 8);
        });
        on(10, "Then DAY is 1 more", () -> {
            GingerArmy x = new GingerArmy();
            for (int day = 1; day <= 3; day++) {
                x.days(1);
                due("day", x.count(1), day);
            }
        });
    }

    private static void p10Held() {
        on(10, "PRESS more by what it RISES (99 held)", () -> {
            GingerArmy x = told("b4000;b4001;p098;p199;");
            x.days(1);
            due("98 and 1", x.bottleOf(0, 3), 99);
            due("99 and 1", x.bottleOf(1, 3), 99);
            x.days(1);
            due("99 and 1", x.bottleOf(0, 3), 99);
        });
        on(10, "PRESS more by what it RISES (99 held), one that goes then, too", () -> {
            // A ROMAN of 9 rises 30 by a sugar and a heat of 9.
            GingerArmy x = told("u99;b5900;b5905;b5910;p068;p169;p270;");
            due("days(1)", x.days(1), 0);
            due("68 and 30", x.bottleOf(0, 3), 98);
            due("69 and 30", x.bottleOf(1, 3), 99);
            due("70 and 30", x.bottleOf(2, 3), 99);
        });
        on(10, "PRESS more by what that SHOCKS (99 held)", () -> {
            // The RAISIN shocks 20.
            GingerArmy x = told("b3002;b2000;b2001;b2003;b2004;p099;p178;p279;p380;p499;");
            due("days(1)", x.days(1), 4);
            due("78 and 20", x.bottleOf(1, 3), 98);
            due("79 and 20", x.bottleOf(2, 3), 99);
            due("80 and 20", x.bottleOf(3, 3), 99);
            due("99 and 20", x.bottleOf(4, 3), 99);
        });
    }

    private static void p10Near() {
        on(10, "NEAR: no farther than 2 PLACES off", () -> {
            GingerArmy x = told("b0007;b2004;b2005;b2006;b2008;b2009;b2010;b2014;p011;");
            x.days(1);
            int[] shocked = {13, 0, 6, 6, 6, 6, 0, 0};
            for (int i = 0; i < 8; i++) {
                due("press of " + i, x.bottleOf(i, 3), shocked[i]);
            }
            due("near(0)", x.near(0), 4 + 8 + 16 + 32);
        });
        on(10, "NEAR at the shelf's ends", () -> {
            GingerArmy x = told("b0000;b2001;b2002;b2003;b2012;b2013;b2014;p011;");
            x.days(1);
            int[] shocked = {13, 6, 6, 0, 0, 0, 0};
            for (int i = 0; i < 7; i++) {
                due("press of " + i, x.bottleOf(i, 3), shocked[i]);
            }
            GingerArmy y = told("b2000;b2001;b2002;b2011;b2012;b2013;b0014;p611;");
            y.days(1);
            int[] atTheEnd = {0, 0, 0, 0, 6, 6, 13};
            for (int i = 0; i < 7; i++) {
                due("press of " + i, y.bottleOf(i, 3), atTheEnd[i]);
            }
        });
    }

    private static void p10Going() {
        int[] most = {19, 38, 99, 33, 99, 42};
        int[] rise = {0, 0, 0, 3, 0, 6};
        for (int k = 0; k < 6; k++) {
            int kind = k;
            on(10, "with PRESS above what they BEAR, kind " + kind, () -> {
                GingerArmy x = told("u00;b" + kind + "900;p0" + (most[kind] - rise[kind]) + ";");
                due("at it", x.days(1), 1);
                due("press", x.bottleOf(0, 3), most[kind]);
                x.outs(0);
                tell(x, "p0" + Math.min(99, most[kind] + 1) + ";");
                due("above it", x.days(1), most[kind] == 99 ? 1 : 0);
            });
        }
        on(10, "the least by numbers is BURST", () -> {
            // 1 goes first and makes 0 too full, so 0 goes ahead of 2 and 7, though they pressed too much before.
            GingerArmy x = told("u00;b0000;b0001;b0002;b2014;b2013;b2012;b2011;b0003;p005;p111;p211;p711;");
            due("days(1)", x.days(1), 4);
            due("0: 5, 6 by 1", x.bottleOf(0, 3), 11);
            due("1: 11, none", x.bottleOf(1, 3), 11);
            due("2: 11, 6 by 1, 6 by 0", x.bottleOf(2, 3), 23);
            due("7: 11, 6 by 1, 6 by 2", x.bottleOf(7, 3), 23);
        });
        on(10, "each other WHOLE one", () -> {
            GingerArmy x = told("u00;b0000;b0001;p011;p111;");
            due("days(1)", x.days(1), 0);
            due("itself is not shocked, nor a burst one", x.bottleOf(0, 3), 11);
            due("the other", x.bottleOf(1, 3), 17);
            tell(x, "b0000;p211;d01;");
            due("nor one that is burst for long", x.bottleOf(0, 3), 11);
        });
        on(10, "under no TOWEL", () -> {
            GingerArmy x = told("u10;b0000;b0001;b2002;t0;t2;p011;p104;");
            due("days(1)", x.days(1), 1);
            due("one under a towel goes and shocks", x.bottleOf(1, 3), 11);
            due("one under a towel is not shocked", x.bottleOf(2, 3), 0);
        });
        on(10, "till there is none", () -> {
            GingerArmy x = told("u00;b0000;b0002;b0004;b0006;b0008;b0010;b0012;b0014;p011;p105;p205;p305;p405;p505;p605;p705;");
            due("all eight, one by one", x.days(1), 0);
            GingerArmy y = told("u00;b0000;b0002;b0004;b0006;b0008;b0010;b0012;b0014;p711;p105;p205;p305;p405;p505;p605;p005;");
            due("all eight from the last", y.days(1), 0);
            GingerArmy z = told("u00;b0000;b0002;b0004;b0006;b0008;b0010;b0012;b0014;p711;p105;p205;p304;p405;p505;p605;p005;");
            due("till one bears it", z.days(1), 4);
            due("it presses", z.bottleOf(3, 3), 10);
        });
        on(10, "each WHOLE one has PRESS more", () -> {
            GingerArmy x = told("b0000;p011;d01;");
            due("days(60)", x.days(60), 0);
            due("a burst one has no more", x.bottleOf(0, 3), 13);
        });
    }

    private static void p11Back() {
        on(11, "-3 none", () -> {
            GingerArmy x = new GingerArmy();
            due("new", x.back(), -3);
            x.feeds(0, 3);
            due("one", x.back(), 0);
            due("none again", x.back(), -3);
            due("as it was", x.count(2), 2);
        });
        on(11, "the latest first, 8 at most (older ones no more)", () -> {
            for (int changes = 7; changes <= 10; changes++) {
                GingerArmy x = new GingerArmy();
                for (int i = 0; i < changes; i++) {
                    x.feeds(1, i % 9 + 1);
                }
                int kept = Math.min(8, changes);
                due("after " + changes, x.count(8), kept);
                for (int i = 1; i <= kept; i++) {
                    due("back", x.back(), kept - i);
                    int earlier = changes - i;
                    due("heat", x.count(3), earlier == 0 ? 0 : (earlier - 1) % 9 + 1);
                }
                due("no more", x.back(), -3);
            }
        });
        on(11, "8 at most, by turns", () -> {
            GingerArmy x = told("b4000;");
            for (int i = 0; i < 20; i++) {
                x.days(1);
            }
            due("back", x.back(), 7);
            due("back", x.back(), 6);
            due("back", x.back(), 5);
            due("day", x.count(1), 17);
            x.days(2);
            x.days(2);
            due("to take back", x.count(8), 7);
            for (int i = 6; i >= 0; i--) {
                due("back", x.back(), i);
            }
            due("day", x.count(1), 12);
            due("press", x.bottleOf(0, 3), 12);
            due("none", x.back(), -3);
        });
        on(11, "each that is not refused counts, also if all stays as it was", () -> {
            GingerArmy x = told("b2000;");
            due("sugar as it is", x.feeds(0, 2), 2);
            due("heat as it is", x.feeds(1, 0), 0);
            due("nothing let out", x.outs(0), 0);
            due("to take back", x.count(8), 3);
            x.towels(0);
            x.towels(0);
            x.days(1);
            due("to take back", x.count(8), 6);
        });
        on(11, "each that is not refused counts, a refused one not", () -> {
            GingerArmy x = told("b2000;b0005;p111;d01;");
            due("feeds", x.feeds(2, 0) + x.feeds(0, -1) + x.feeds(1, 10), -12);
            due("outs", x.outs(-1) + x.outs(2) + x.outs(1), -5);
            due("towels", x.towels(-1) + x.towels(2) + x.towels(1), -5);
            due("days", x.days(0) + x.days(61), -10);
            due("to take back", x.count(8), 0);
            due("back", x.back(), -3);
        });
    }

    private static void p11LeavesNone() {
        on(11, "bottle(), where it is not refused, leaves none", () -> {
            GingerArmy x = told("b2000;");
            x.feeds(0, 3);
            due("refused", x.bottle(2, 0, 0), -3);
            due("they stay", x.count(8), 1);
            due("not refused", x.bottle(2, 0, 1), 1);
            due("none", x.count(8), 0);
            due("back", x.back(), -3);
            due("sugar", x.count(2), 3);
        });
        on(11, "a CELLAR without FAULT leaves none", () -> {
            GingerArmy x = told("b2000;");
            x.feeds(0, 3);
            due("a fault of kind 1", tell(x, "u55"), -1003);
            due("a fault of kind 2", tell(x, "u55;d00;"), -2004);
            due("they stay", x.count(8), 1);
            due("without fault", tell(x, "t0;"), 1);
            due("none", x.count(8), 0);
        });
        on(11, "restore(), where it is not refused, leaves none", () -> {
            GingerArmy x = told("b2000;");
            x.feeds(0, 3);
            due("refused", x.restore(), -3);
            due("they stay", x.count(8), 1);
            due("an image leaves them", x.image(), 0);
            due("they stay", x.count(8), 1);
            due("not refused", x.restore(), 0);
            due("none", x.count(8), 0);
        });
        on(11, "what feeds(), outs(), towels(), days() changed can be TAKEN BACK", () -> {
            GingerArmy x = told("b0000;b2001;p005;");
            x.feeds(0, 9);
            x.feeds(1, 8);
            x.outs(0);
            x.towels(1);
            x.days(1);
            x.image();
            due("burst", x.count(4), 2);
            due("days", x.back(), 4);
            due("whole again", x.count(4), 3);
            due("day", x.count(1), 0);
            due("press", x.bottleOf(0, 3), 0);
            due("towels", x.back(), 3);
            due("no towel", x.bottleOf(1, 5), 0);
            due("outs", x.back(), 2);
            due("press", x.bottleOf(0, 3), 5);
            due("heat", x.back(), 1);
            due("heat is", x.count(3), 0);
            due("sugar", x.back(), 0);
            due("sugar is", x.count(2), 2);
            due("the image stays", x.restore(), 1);
        });
    }
}
