/** The boundaries that part II of the document and promises 12 to 29 and 41 name, each by a test of its own. */
final class MindBoundaries extends Cellars {
    /** Eight BOTTLES of figure 0, no two near enough to shock each other but by twos: 0 1, 4 5, 8 9, 12 13. */
    private static final String EIGHT_BY_TWOS = "b0000;b0001;b0004;b0005;b0008;b0009;b0012;b0013;";
    private static final String DAY_999 = "d60;".repeat(16) + "d39;";

    private MindBoundaries() {
    }

    static void run() {
        p12PressIn();
        p13Then();
        p14Goes();
        p14First();
        p15Quiet();
        p16Takes();
        p17Worst();
        p18Safe();
        p19Towel();
        p20Spoon();
        p21Out();
        p22Ready();
        p23FeedFor();
        p24Move();
        p25Halved();
        p26WhoWent();
        p27WhatKind();
        p28Two();
        p29Thunders();
        p41Lots();
        inMind();
    }

    private static void on(int promise, String words, Runnable test) {
        Check.sentence(promise, words, test);
    }

    private static void p12PressIn() {
        on(12, "n DAYS on (0 .. 60), -4 and -6 60", () -> {
            GingerArmy x = told("b4000;");
            due("pressIn(0, -1)", x.pressIn(0, -1), -4);
            due("pressIn(0, 0)", x.pressIn(0, 0), 0);
            due("pressIn(0, 1)", x.pressIn(0, 1), 1);
            due("pressIn(0, 60)", x.pressIn(0, 60), 60);
            due("pressIn(0, 61)", x.pressIn(0, 61), -6);
        });
        on(12, "PRESS (0 .. 99)", () -> {
            GingerArmy x = told("b4000;p039;");
            due("39 and 59", x.pressIn(0, 59), 98);
            due("39 and 60", x.pressIn(0, 60), 99);
            tell(x, "p040;");
            due("40 and 60", x.pressIn(0, 60), 99);
        });
        on(12, "of a BURST one as it was when it went", () -> {
            GingerArmy x = told("b0000;b0001;p104;");
            // 1 presses 12 behind 4 days, goes and shocks 0, which presses 8 and goes, too.
            due("ahead of it", x.pressIn(1, 3), 10);
            due("when it went", x.pressIn(1, 4), 12);
            due("long behind it", x.pressIn(1, 60), 12);
            due("the one it took", x.pressIn(0, 60), 14);
            x.days(4);
            due("burst now", x.pressIn(1, 0), 12);
            due("burst long", x.pressIn(1, 60), 12);
        });
        on(12, "-1", () -> {
            due("none", new GingerArmy().pressIn(0, 0), -1);
            GingerArmy x = told(EIGHT_LEMONS + "p799;");
            due("the last", x.pressIn(7, 60), 99);
            due("one more", x.pressIn(8, 60), -1);
        });
    }

    private static void p13Then() {
        on(13, "n DAYS on (0 .. 60), -4 and -6 60", () -> {
            GingerArmy x = told("b1900;p000;u20;");
            due("then(-1, 2)", x.then(-1, 2), -4);
            due("then(0, 2)", x.then(0, 2), 1);
            due("then(38, 2)", x.then(38, 2), 1);
            due("then(39, 2)", x.then(39, 2), 0);
            due("then(60, 2)", x.then(60, 2), 0);
            due("then(61, 2)", x.then(61, 2), -6);
        });
        on(13, "-2, what 0 .. 2", () -> {
            GingerArmy x = told("b2000;b2001;p107;");
            due("then(0, -1)", x.then(0, -1), -2);
            due("then(0, 0)", x.then(0, 0), 3);
            due("then(0, 1)", x.then(0, 1), 7);
            due("then(0, 2)", x.then(0, 2), 2);
            due("then(0, 3)", x.then(0, 3), -2);
        });
        on(13, "no BOTTLES", () -> {
            for (int what = 0; what <= 2; what++) {
                due("then(60, " + what + ")", new GingerArmy().then(60, what), 0);
            }
        });
        on(13, "8 BOTTLES, PRESS of all WHOLE ones together", () -> {
            GingerArmy x = told(EIGHT_LEMONS + "p099;p199;p299;p399;p499;p599;p699;p799;");
            due("bits", x.then(60, 0), 255);
            due("press", x.then(60, 1), 792);
            due("left", x.then(60, 2), 8);
        });
        on(13, "PRESS of these: of WHOLE ones alone", () -> {
            GingerArmy x = told("b0000;b2005;p011;p107;");
            due("ahead of it", x.then(0, 1), 18);
            due("behind it", x.then(1, 1), 7);
            due("bits behind it", x.then(1, 0), 2);
            due("left behind it", x.then(1, 2), 1);
        });
    }

    private static void p14Goes() {
        on(14, "behind how many DAYS one is BURST first: 0, it is so already", () -> {
            GingerArmy x = told("b0000;p011;d01;");
            due("goes(0)", x.goes(0), 0);
        });
        on(14, "behind how many DAYS: 1, it presses too much", () -> {
            due("11", told("u00;b0000;p011;").goes(0), 1);
            due("99", told("u00;b0000;p099;").goes(0), 1);
            due("10", told("u00;b0000;p010;").goes(0), -9);
        });
        on(14, "behind how many DAYS, the longest by a rise of 1", () -> {
            due("a STONE of 9", told("b1900;").goes(0), 39);
            due("a BOTTLE of 9", told("u10;b0900;").goes(0), 20);
        });
        on(14, "-9, never", () -> {
            due("a LEMON at 99", told("b2000;p099;").goes(0), -9);
            due("a PLANT held at 99", told("b4000;p099;").goes(0), -9);
        });
        on(14, "-1", () -> {
            due("none", new GingerArmy().goes(0), -1);
            GingerArmy x = told(EIGHT_LEMONS);
            due("goes(-2)", x.goes(-2), -1);
            due("goes(7)", x.goes(7), -9);
            due("goes(8)", x.goes(8), -1);
            due("refusals", x.count(11), 2);
        });
    }

    private static void p14First() {
        on(14, "FIRST (bottle -1; -9)", () -> {
            GingerArmy x = new GingerArmy();
            due("no bottles", x.goes(-1), -9);
            due("not refused", x.count(11), 0);
            due("none goes", told(EIGHT_LEMONS).goes(-1), -9);
        });
        on(14, "FIRST: which WHOLE one", () -> {
            GingerArmy x = told("b0000;p011;d01;b1905;");
            due("the burst one is not it", x.goes(-1), 1);
            due("behind 39 days", x.goes(1), 39);
        });
        on(14, "FIRST: of several the least", () -> {
            due("0 of all", told(EIGHT_BY_TWOS).goes(-1), 0);
            due("the last alone", told(EIGHT_LEMONS.substring(0, 42) + "b0014;").goes(-1), 7);
            // 1 goes by its own press and takes 0 in the same day.
            due("the least of one day", told("u00;b0000;b0001;p005;p111;").goes(-1), 0);
            due("of one day, not the fuller", told("b0000;b0005;p000;").goes(-1), 0);
            due("of one day, not the fuller", told("b0000;b0005;p002;p101;").goes(-1), 0);
            due("the sooner, not the less", told("b0000;b0005;p101;").goes(-1), 1);
        });
    }

    private static void p15Quiet() {
        on(15, "of the next 60 DAYS: all of them", () -> {
            due("no bottles", new GingerArmy().quiet(), 60);
            due("none goes", told(EIGHT_LEMONS).quiet(), 60);
            due("all are gone", told("b0000;p011;d01;").quiet(), 60);
        });
        on(15, "of the next 60 DAYS: one goes in the first", () ->
            due("59", told("b0000;p011;").quiet(), 59));
        on(15, "the longest run of the next 60 DAYS, ahead or behind", () -> {
            // A STONE of 9 goes when it presses 39, in the 30th DAY or in the 31st.
            due("29 ahead, 30 behind", told("b1900;p009;").quiet(), 30);
            due("30 ahead, 29 behind", told("b1900;p008;").quiet(), 30);
            due("38 ahead, 21 behind", told("b1900;").quiet(), 38);
            due("1 ahead, 58 behind", told("b1900;p037;").quiet(), 58);
        });
        on(15, "in which none BURSTS: between two", () ->
            // In the 2nd and in the 39th DAY: 1, 36 and 21.
            due("36 between", told("b1900;b1905;p137;").quiet(), 36));
    }

    private static void p16Takes() {
        on(16, "-1; -3 it is BURST", () -> {
            due("none", new GingerArmy().takes(0), -1);
            GingerArmy x = told("b0000;b0005;p011;d01;");
            due("takes(-1)", x.takes(-1), -1);
            due("takes(2)", x.takes(2), -1);
            due("takes(0)", x.takes(0), -3);
            due("takes(1)", x.takes(1), 0);
        });
        on(16, "by SHOCKS only: at what one BEARS, above it", () -> {
            due("4 and 6", told("b0000;b0001;p104;").takes(0), 0);
            due("5 and 6", told("b0000;b0001;p105;").takes(0), 2);
        });
        on(16, "NEAR: no farther than 2 PLACES off", () -> {
            GingerArmy x = told("b0007;b0004;b0005;b0009;b0010;p110;p210;p310;p410;");
            // 5 takes 4, and 9 takes 10.
            due("takes(0)", x.takes(0), 30);
            due("three off", told("b0007;b0004;b0010;p110;p210;").takes(0), 0);
            due("two off", told("b0007;b0005;b0009;p110;p210;").takes(0), 6);
        });
        on(16, "those besides: all of 8, itself not", () -> {
            GingerArmy x = told("b0000;b0002;b0004;b0006;b0008;b0010;b0012;b0014;p005;p105;p205;p305;p405;p505;p605;p705;");
            due("takes(0)", x.takes(0), 254);
            due("takes(7)", x.takes(7), 127);
            due("takes(3)", x.takes(3), 247);
            due("all stay", x.count(4), 255);
        });
        on(16, "under no TOWEL", () -> {
            due("not shocked", told("b0000;b0001;p110;t1;").takes(0), 0);
            due("shocks", told("b0000;b0001;p110;t0;").takes(0), 2);
        });
        on(16, "99 held", () -> due("a LEMON at 99", told("b3000;b2001;p199;").takes(0), 0));
    }

    private static void p17Worst() {
        on(17, "what 0; -9, how many 1; -9: none is WHOLE", () -> {
            GingerArmy x = new GingerArmy();
            due("worst(0)", x.worst(0), -9);
            due("worst(1)", x.worst(1), -9);
            GingerArmy y = told("b0000;p011;d01;");
            due("worst(0)", y.worst(0), -9);
            due("worst(1)", y.worst(1), -9);
        });
        on(17, "-2, what 0, 1", () -> {
            GingerArmy x = told("b2000;");
            due("worst(-1)", x.worst(-1), -2);
            due("worst(0)", x.worst(0), 0);
            due("worst(1)", x.worst(1), 0);
            due("worst(2)", x.worst(2), -2);
        });
        on(17, "of several the least", () -> {
            due("of 8 that take none", told(EIGHT_LEMONS).worst(0), 0);
            due("of two that take each other", told("b2014;b0000;b0001;p110;p210;").worst(0), 1);
            due("how many", told("b2014;b0000;b0001;p110;p210;").worst(1), 1);
        });
        on(17, "by which most do so: the last of 8", () -> {
            // The PLANT of 9 alone is near the two.
            GingerArmy x = told("b2014;b2013;b2012;b2011;b2010;b0000;b0004;b4902;p504;p604;");
            due("worst(0)", x.worst(0), 7);
            due("worst(1)", x.worst(1), 2);
        });
        on(17, "how many: 7 of 8", () -> {
            GingerArmy x = told("b0000;b0002;b0004;b0006;b0008;b0010;b0012;b0014;p005;p105;p205;p305;p405;p505;p605;p705;");
            due("worst(0)", x.worst(0), 0);
            due("worst(1)", x.worst(1), 7);
        });
    }

    private static void p18Safe() {
        on(18, "n DAYS (0 .. 60), -4 and -6 60", () -> {
            GingerArmy x = told("b2005;");
            due("safe(0, -1)", x.safe(0, -1), -4);
            due("safe(0, 0)", x.safe(0, 0), 0);
            due("safe(0, 60)", x.safe(0, 60), 0);
            due("safe(0, 61)", x.safe(0, 61), -6);
        });
        on(18, "-1; -3 it is BURST", () -> {
            due("none", new GingerArmy().safe(0, 0), -1);
            GingerArmy x = told("b0000;p011;d01;b2001;");
            due("safe(0, 0)", x.safe(0, 0), -3);
            due("safe(1, 0)", x.safe(1, 0), 0);
            due("safe(2, 0)", x.safe(2, 0), -1);
        });
        on(18, "the free PLACE for one now", () -> {
            due("the first that is free", told("b2000;b2001;b2002;b2014;").safe(3, 0), 3);
            due("one with a BURST one in it", told("b0000;p011;d01;b2014;").safe(1, 0), 0);
        });
        on(18, "(its own, too)", () -> {
            due("the least, its own", told("b2000;b2001;").safe(0, 60), 0);
            due("a lesser one is free", told("b2001;b2000;b2003;").safe(2, 60), 2);
        });
        on(18, "PLACES 0 .. 14: the last alone is safe", () -> {
            // The three go in the first DAY; but 14 each free PLACE is near one of them.
            String three = "b0001;b0006;b0011;p099;p199;p299;";
            due("from 12", told(three + "b0012;p306;").safe(3, 1), 14);
            due("from 14", told(three + "b0014;p306;").safe(3, 1), 14);
            due("nowhere is: the least", told(three + "b0014;p309;").safe(3, 1), 0);
        });
        on(18, "the last of 8", () -> {
            due("safe(7, 60)", told(EIGHT_LEMONS).safe(7, 60), 7);
            due("safe(8, 60)", told(EIGHT_LEMONS).safe(8, 60), -1);
        });
    }

    private static void p19Towel() {
        on(19, "n DAYS (0 .. 60), -4 and -6 60", () -> {
            GingerArmy x = told("b0000;b1901;p137;");
            due("towel(-1)", x.towel(-1), -4);
            due("towel(0)", x.towel(0), -9);
            due("towel(60)", x.towel(60), -9);
            due("towel(61)", x.towel(61), -6);
            due("none", new GingerArmy().towel(60), -9);
        });
        on(19, "by which most are WHOLE behind 60 DAYS", () ->
            // The RAISIN of 2 does not rise by a sugar of 1, the BOTTLE goes and would take it.
            due("towel(60)", told("u10;b0000;b3201;p114;").towel(60), 1));
        on(19, "more than else", () -> {
            due("as many as else", told("u00;b0000;b0001;p011;p111;").towel(1), -9);
            due("one more", told("u00;b0000;b0001;p011;p110;").towel(1), 1);
            due("under one already", told("u00;b0000;b0001;p011;p110;t1;").towel(1), -9);
        });
        on(19, "of several the least", () -> {
            due("the first", told("u00;b0000;b0001;p010;p111;").towel(1), 0);
            due("of two", told("u00;b0002;b0000;b0004;p011;p110;p210;").towel(1), 1);
            due("the last of 8", told("u00;b2014;b2013;b2012;b2011;b2010;b2009;b0000;b0001;p611;p710;").towel(1), 7);
        });
        on(19, "one BURST is under none of use", () ->
            due("towel(60)", told("b0000;p011;d01;").towel(60), -9));
    }

    private static void p20Spoon() {
        on(20, "n DAYS (0 .. 60), -4 and -6 60", () -> {
            GingerArmy x = told("b0000;");
            due("spoon(-1, 0)", x.spoon(-1, 0), -4);
            due("spoon(0, 0)", x.spoon(0, 0), 9);
            due("spoon(60, 0)", x.spoon(60, 0), 0);
            due("spoon(60, 1)", x.spoon(60, 1), 1);
            due("spoon(61, 0)", x.spoon(61, 0), -6);
        });
        on(20, "-2, what 0, 1", () -> {
            GingerArmy x = new GingerArmy();
            due("spoon(0, -1)", x.spoon(0, -1), -2);
            due("spoon(0, 0)", x.spoon(0, 0), 9);
            due("spoon(0, 1)", x.spoon(0, 1), 0);
            due("spoon(0, 2)", x.spoon(0, 2), -2);
        });
        on(20, "the SUGAR (0 .. 9), of several the greatest", () -> {
            due("9 in one day", told("b0000;").spoon(1, 0), 9);
            due("10 is borne, 9 and 1 is not above it", told("b0000;p001;").spoon(1, 0), 9);
            due("9 and 2 is", told("b0000;p002;").spoon(1, 0), 8);
            due("none is of use", told("b0000;p011;").spoon(1, 0), 9);
            due("none is of use, how many", told("b0000;p011;").spoon(1, 1), 0);
            due("0 alone", told("b0000;p010;").spoon(1, 0), 0);
            due("0 alone, how many", told("b0000;p010;").spoon(1, 1), 1);
        });
        on(20, "how many: 8", () -> {
            due("spoon(60, 0)", told(EIGHT_BY_TWOS).spoon(60, 0), 0);
            due("spoon(60, 1)", told(EIGHT_BY_TWOS).spoon(60, 1), 8);
        });
        on(20, "by which most are WHOLE: HEAT as it is", () -> {
            due("heat 9", told("u09;b0000;p005;").spoon(1, 0), 1);
            due("heat 8", told("u28;b0000;p005;").spoon(1, 0), 1);
            due("heat 1", told("u51;b0000;p005;").spoon(1, 0), 5);
        });
    }

    private static void p21Out() {
        on(21, "n DAYS (0 .. 60), -4 and -6 60", () -> {
            GingerArmy x = told("u00;b0000;p011;");
            due("out(-1)", x.out(-1), -4);
            due("out(0)", x.out(0), -9);
            due("out(1)", x.out(1), 0);
            due("out(60)", x.out(60), 0);
            due("out(61)", x.out(61), -6);
            due("none", new GingerArmy().out(60), -9);
        });
        on(21, "more than else", () -> {
            due("of no use", told("u00;b0000;p010;").out(60), -9);
            due("let out it goes too", told("u90;b0000;p011;").out(2), -9);
            due("let out it does not", told("u90;b0000;p011;").out(1), 0);
        });
        on(21, "let out now (PRESS 0)", () -> {
            due("0, 5 and 10 is borne", told("u50;b0000;p003;").out(2), 0);
            due("11 at once is not", told("u94;b0000;p001;").out(1), -9);
        });
        on(21, "of several the least", () -> {
            due("of two", told("u00;b2014;b0000;b0010;p111;p211;").out(1), 1);
            due("the last of 8", told("u00;b2014;b2013;b2012;b2011;b2010;b2009;b2008;b0000;p711;").out(1), 7);
        });
        on(21, "which lets most be WHOLE", () ->
            // 1 goes and takes 0, so letting 1 out saves both.
            due("out(1)", told("u00;b0000;b0001;b0010;p005;p111;p211;").out(1), 1));
        on(21, "one that is BURST is none of use", () ->
            due("out(60)", told("b0000;p011;d01;").out(60), -9));
    }

    private static void p22Ready() {
        on(22, "PRESS v (0 .. 99), -4 either; -6 99", () -> {
            GingerArmy x = told("b4000;p039;");
            due("ready(0, -1, 60)", x.ready(0, -1, 60), -4);
            due("ready(0, 0, 60)", x.ready(0, 0, 60), 0);
            due("ready(0, 39, 60)", x.ready(0, 39, 60), 0);
            due("ready(0, 40, 60)", x.ready(0, 40, 60), 1);
            due("ready(0, 99, 60)", x.ready(0, 99, 60), 1);
            due("ready(0, 99, 59)", x.ready(0, 99, 59), -9);
            due("ready(0, 100, 60)", x.ready(0, 100, 60), -6);
        });
        on(22, "n DAYS, -4 either; -6 60", () -> {
            GingerArmy x = told("b2000;p005;");
            due("ready(0, 5, -1)", x.ready(0, 5, -1), -4);
            due("ready(0, 5, 0)", x.ready(0, 5, 0), 0);
            due("ready(0, 6, 0)", x.ready(0, 6, 0), -9);
            due("ready(0, 5, 60)", x.ready(0, 5, 60), 0);
            due("ready(0, 5, 61)", x.ready(0, 5, 61), -6);
        });
        on(22, "the SUGAR (0 .. 9), the least; -9", () -> {
            GingerArmy x = told("b0000;");
            for (int v = 1; v <= 9; v++) {
                due("ready(0, " + v + ", 1)", x.ready(0, v, 1), v);
            }
            due("ready(0, 10, 1)", x.ready(0, 10, 1), -9);
        });
        on(22, "WHOLE still", () -> {
            GingerArmy x = told("b0000;p002;");
            due("at what it bears", x.ready(0, 10, 1), 8);
            due("above it", x.ready(0, 11, 1), -9);
            due("a BURST one", told("b0000;p011;d01;").ready(0, 0, 0), -9);
        });
        on(22, "-1", () -> {
            due("none", new GingerArmy().ready(0, 0, 0), -1);
            due("the last", told(EIGHT_LEMONS).ready(7, 0, 0), 0);
            due("one more", told(EIGHT_LEMONS).ready(8, 0, 0), -1);
        });
    }

    private static void p23FeedFor() {
        on(23, "PRESS v, -4; -6 99", () -> {
            GingerArmy x = told("b4000;p099;");
            due("feedFor(0, -1)", x.feedFor(0, -1), -4);
            due("feedFor(0, 0)", x.feedFor(0, 0), 0);
            due("feedFor(0, 99)", x.feedFor(0, 99), 0);
            due("feedFor(0, 100)", x.feedFor(0, 100), -6);
        });
        on(23, "DAYS of SUGAR 9 at first (0 .. 30; then none)", () -> {
            GingerArmy x = told("b4000;p069;");
            due("none", x.feedFor(0, 69), 0);
            due("1", x.feedFor(0, 70), 1);
            due("29", x.feedFor(0, 98), 29);
            due("30", x.feedFor(0, 99), 30);
            x.outs(0);
            due("30 from nothing", x.feedFor(0, 30), 30);
            due("31 would do", x.feedFor(0, 31), -9);
        });
        on(23, "behind any of DAYS 0 .. 30 first", () -> {
            // By a HEAT of 2 a BOTTLE rises 1 by no sugar: from 0 it presses 10 behind 10 DAYS, and then it goes.
            due("behind DAY 0", told("u92;b0000;p010;").feedFor(0, 10), 0);
            due("behind DAY 10", told("u92;b0000;").feedFor(0, 10), 0);
            // A RAISIN of 3 rises 1 by no sugar: 21 is borne.
            due("behind DAY 30 of none", told("b5300;").feedFor(0, 24), 0);
            due("behind DAY 21 of none", told("b3300;").feedFor(0, 21), 0);
        });
        on(23, "behind DAY 30, not 31", () -> {
            // A STONE of 9 rises 1 by a HEAT of 4 and no SUGAR, and 10 by a SUGAR of 9.
            GingerArmy x = told("u24;b1900;");
            due("30 by none", x.feedFor(0, 30), 0);
            due("31 by none is a day late", x.feedFor(0, 31), 1);
        });
        on(23, "WHOLE", () -> {
            GingerArmy x = told("b0000;");
            due("9 in a day", x.feedFor(0, 9), 1);
            due("18 bursts it", x.feedFor(0, 10), -9);
            due("a BURST one", told("b0000;p011;d01;").feedFor(0, 0), -9);
        });
        on(23, "-1", () -> {
            due("none", new GingerArmy().feedFor(0, 0), -1);
            due("the last", told(EIGHT_LEMONS).feedFor(7, 0), 0);
            due("one more", told(EIGHT_LEMONS).feedFor(8, 0), -1);
        });
    }

    private static void p24Move() {
        on(24, "n DAYS, -4; -6 60", () -> {
            GingerArmy x = told("u00;b0000;b0401;b2010;p011;p114;");
            due("move(-1)", x.move(-1), -4);
            due("move(0)", x.move(0), -9);
            due("move(1)", x.move(1), 2);
            due("move(60)", x.move(60), 2);
            due("move(61)", x.move(61), -6);
        });
        on(24, "-9", () -> {
            due("none", new GingerArmy().move(60), -9);
            due("one alone", told("b0000;p011;").move(60), -9);
            due("no more than now", told("u00;b0000;b2001;p011;").move(1), -9);
        });
        on(24, "the two WHOLE ones", () -> {
            GingerArmy x = told("b0010;p011;d01;u00;b0000;b0401;p111;p214;");
            due("with a BURST one's place it would help", x.move(1), -9);
        });
        on(24, "of several the first", () -> {
            due("0 with 2, 0 with 3, 1 with 2 ..", told("u00;b0000;b0401;b2010;b2011;p011;p114;").move(1), 2);
            due("0 with 1", told("u00;b2010;b0000;b0401;p111;p214;").move(1), 1);
        });
        on(24, "(10 the lesser and the other), the last of 8", () -> {
            // 6 is near both that go, as every PLACE of another is but that of 7.
            GingerArmy x = told("u00;b0002;b0006;b2000;b2001;b2005;b2007;b0404;b2014;p011;p111;p614;");
            due("move(1)", x.move(1), 67);
        });
    }

    private static void p25Halved() {
        on(25, "-9 none is", () -> {
            due("no bottles", new GingerArmy().halved(), -9);
            due("none goes", told(EIGHT_LEMONS).halved(), -9);
            due("all are gone", told("b0000;p011;d01;").halved(), -9);
        });
        on(25, "behind how many DAYS: 1", () -> due("99", told("u00;b0000;p099;").halved(), 1));
        on(25, "ahead of each seventh DAY from now", () -> {
            // Rising 2: 12 behind 6 days, 14 behind 7 if it were not halved.
            due("in the 6th, not yet", told("b0100;").halved(), 6);
            due("12 is borne in the 6th, and not behind 9", told("b0200;").halved(), 10);
            due("in the 1st, not yet", told("u00;b0000;p020;").halved(), 1);
            due("the DAY of the cellar counts not", told("b0000;d03;o0;").halved(), 6);
        });
        on(25, "each seventh: the 14th, the 21st", () -> {
            // Rising 1 from 0: 6, halved 3, 10, halved 5, 12, halved 6, 13.
            due("above 10 behind 19", told("u10;b0000;").halved(), 19);
            due("above 12 behind 27", told("u10;b0200;").halved(), 27);
            due("13 is borne", told("u10;b0300;").halved(), -9);
        });
        on(25, "all PRESS halved, cut", () -> {
            // 1 and 6 is 7, halved 3, 10 behind 13 and halved 5.
            due("3, not 4", told("u10;b0000;p001;").halved(), 19);
            due("of the other, too", told("u10;b2014;b0000;p101;").halved(), 19);
        });
        on(25, "one is BURST first: of several, one BURST already", () -> {
            GingerArmy x = told("b0000;b0105;p011;d01;");
            due("2 now, 12 behind 5", x.halved(), 5);
        });
    }

    private static void p26WhoWent() {
        on(26, "an empty ROW", () -> {
            due("no bottles", new GingerArmy().whoWent(), 0);
            due("8", told(EIGHT_LEMONS).whoWent(), 255);
        });
        on(26, "a ROW of 12 numbers, behind 0, 1, .. DAYS", () -> {
            GingerArmy x = told("b2000;b2005;");
            rows(x, 1, 1, 1, 1, 1, 1, 1, 1, 1, 1, 1, 1);
            due("all so", x.whoWent(), 3);
            rows(x, 1, 1, 1, 1, 1, 1, 1, 1, 1, 1, 1, 0);
            due("the last not so", x.whoWent(), 0);
            rows(x, 2, 1, 1, 1, 1, 1, 1, 1, 1, 1, 1, 1);
            due("the first not so", x.whoWent(), 0);
            due("it stays", x.count(7), 12);
        });
        on(26, "behind 11 DAYS by the twelfth number", () -> {
            // Rising 1 from 0, it goes in the 11th DAY.
            GingerArmy x = told("u10;b2000;b0005;");
            rows(x, 1, 1, 1, 1, 1, 1, 1, 1, 1, 1, 1, 0);
            due("the LEMON", x.whoWent(), 1);
            rows(x, 1, 1, 1, 1, 1, 1, 1, 1, 1, 1, 1, 1);
            due("the BOTTLE", x.whoWent(), 2);
            rows(x, 1, 1, 1, 1, 1, 1, 1, 1, 1, 1, 0);
            due("a day sooner", x.whoWent(), 0);
        });
        on(26, "BURST now (they SHOCK at once)", () -> {
            GingerArmy x = told("u00;b0000;b0001;b2002;p105;");
            rows(x, 1);
            due("0 takes 1", x.whoWent(), 1);
            rows(x, 2);
            due("1 and 2 take none", x.whoWent(), 6);
        });
        on(26, "how many are WHOLE, none", () -> {
            GingerArmy x = told("u00;b0000;");
            rows(x, 0, 0);
            due("the only one", x.whoWent(), 1);
            due("a BURST one is none", burstAlone(0).whoWent(), 0);
        });
        on(26, "how many are WHOLE, more than there are", () -> {
            GingerArmy x = told(EIGHT_LEMONS);
            rows(x, 8);
            due("8", x.whoWent(), 0);
            rows(x, 7);
            due("7", x.whoWent(), 255);
            rows(x, 99);
            due("99", x.whoWent(), 0);
        });
    }

    private static GingerArmy burstAlone(int number) {
        GingerArmy x = told("b0000;p011;d01;");
        rows(x, number);
        return x;
    }

    private static void p27WhatKind() {
        on(27, "an empty ROW", () -> {
            GingerArmy x = told("b5900;");
            due("kinds", x.whatKind(0, 0), 63);
            due("figures", x.whatKind(0, 1), 1023);
        });
        on(27, "-1; -2, what 0, 1", () -> {
            due("none", new GingerArmy().whatKind(0, 0), -1);
            GingerArmy x = told(EIGHT_LEMONS);
            due("whatKind(-1, 0)", x.whatKind(-1, 0), -1);
            due("whatKind(7, -1)", x.whatKind(7, -1), -2);
            due("whatKind(7, 0)", x.whatKind(7, 0), 63);
            due("whatKind(7, 1)", x.whatKind(7, 1), 1023);
            due("whatKind(7, 2)", x.whatKind(7, 2), -2);
            due("whatKind(8, 0)", x.whatKind(8, 0), -1);
        });
        on(27, "KINDS (bits), the first and the last", () -> {
            GingerArmy x = told("u30;b0000;");
            rows(x, 0, 3);
            due("a BOTTLE alone", x.whatKind(0, 0), 1);
            rows(x, 0, 4);
            due("a ROMAN alone", x.whatKind(0, 0), 32);
            rows(x, 0, 2);
            due("a STONE and a RAISIN", x.whatKind(0, 0), 10);
            rows(x, 0, 1);
            due("a PLANT", x.whatKind(0, 0), 16);
            rows(x, 0, 0);
            due("a LEMON", x.whatKind(0, 0), 4);
        });
        on(27, "FIGURES (bits 0 .. 9)", () -> {
            GingerArmy x = told("u10;b3000;");
            rows(x, 0, 0);
            due("0, 1, 2", x.whatKind(0, 1), 7);
            rows(x, 0, 3);
            due("9", x.whatKind(0, 1), 512);
            // Which figure bears 10 and which 19: from 11 and from 19 on it rises.
            GingerArmy y = told("u90;b0500;p001;");
            rows(y, 1, 10, 19, 19);
            due("19 is borne by 9 alone, and 10 by all", y.whatKind(0, 1), 511);
            rows(y, 1, 10, 19, 28);
            due("9", y.whatKind(0, 1), 512);
        });
        on(27, "a ROW of 12 numbers, behind 0, 1, .. DAYS", () -> {
            GingerArmy x = told("b4000;");
            rows(x, 0, 1, 2, 3, 4, 5, 6, 7, 8, 9, 10, 11);
            due("kinds: a STONE, a RAISIN of 0, a PLANT", x.whatKind(0, 0), 26);
            due("figures", x.whatKind(0, 1), 1023);
            rows(x, 0, 1, 2, 3, 4, 5, 6, 7, 8, 9, 10, 12);
            due("the last not so, kinds", x.whatKind(0, 0), 0);
            due("the last not so, figures", x.whatKind(0, 1), 0);
            rows(x, 1, 1, 2, 3, 4, 5, 6, 7, 8, 9, 10, 11);
            due("the first not so, kinds", x.whatKind(0, 0), 0);
            due("it stays", x.count(7), 12);
        });
        on(27, "of a BURST one, as it was when it went", () -> {
            GingerArmy x = told("b0000;p011;d01;");
            rows(x, 13, 13);
            due("kinds", x.whatKind(0, 0), 63);
            rows(x, 13, 14);
            due("kinds", x.whatKind(0, 0), 0);
        });
    }

    private static void p28Two() {
        on(28, "-1 (one twice, too)", () -> {
            GingerArmy x = told(EIGHT_LEMONS);
            due("two(7, 7, 0)", x.two(7, 7, 0), -1);
            due("two(7, 8, 0)", x.two(7, 8, 0), -1);
            due("two(8, 7, 0)", x.two(8, 7, 0), -1);
            due("two(-1, 7, 0)", x.two(-1, 7, 0), -1);
            due("two(7, -1, 0)", x.two(7, -1, 0), -1);
            due("two(0, 7, 0)", x.two(0, 7, 0), 0);
            due("none", new GingerArmy().two(0, 1, 0), -1);
        });
        on(28, "n DAYS (0 .. 60), -4; -6 60", () -> {
            GingerArmy x = told("u00;b0000;b0005;p011;p111;");
            due("two(0, 1, -1)", x.two(0, 1, -1), -4);
            due("two(0, 1, 0)", x.two(0, 1, 0), 0);
            due("two(0, 1, 1)", x.two(0, 1, 1), 11);
            due("two(0, 1, 60)", x.two(0, 1, 60), 11);
            due("two(0, 1, 61)", x.two(0, 1, 61), -6);
        });
        on(28, "-3 either is BURST", () -> {
            GingerArmy x = told("b0000;b2005;p011;d01;");
            due("the one", x.two(0, 1, 0), -3);
            due("the other", x.two(1, 0, 0), -3);
            due("ahead of it: one twice", x.two(0, 0, 0), -1);
            due("ahead of it: below", x.two(0, 1, -1), -4);
            due("ahead of it: room", x.two(0, 1, 61), -6);
        });
        on(28, "the first pair (10 the one's and the other's)", () -> {
            due("neither need", told("u00;b0000;b0005;p010;p110;").two(0, 1, 60), 0);
            due("the other", told("u00;b0000;b0005;p010;p111;").two(0, 1, 60), 1);
            due("the one", told("u00;b0000;b0005;p011;p110;").two(0, 1, 60), 10);
            due("both", told("u00;b0000;b0005;p011;p111;").two(0, 1, 60), 11);
        });
        on(28, "0 if BURST: neither is saved by it", () ->
            due("both go by what they rise", told("u90;b0000;b0005;").two(0, 1, 60), 0));
        on(28, "each is let out now (PRESS 0)", () -> {
            // 0, 5 and 10 is borne; 11 at once is not.
            due("the one", told("u50;b0000;b2014;p003;").two(0, 1, 2), 10);
            due("the other", told("u50;b0000;b2014;p003;").two(1, 0, 2), 1);
            due("the one in vain", told("u94;b0000;b2014;p001;").two(0, 1, 1), 0);
            due("the other in vain", told("u94;b0000;b2014;p001;").two(1, 0, 1), 0);
        });
        on(28, "by another choice alone: only both together would be of use", () ->
            // One let out rises to 5 and is shocked to 11 by the other, which goes.
            due("two(0, 1, 1)", told("u50;b0000;b0001;p006;p106;").two(0, 1, 1), 0));
        on(28, "by which neither has it better by another choice alone", () -> {
            // 0 goes and takes 1; let out it spares itself and the other.
            due("the one goes", told("u00;b0000;b0001;p011;p105;").two(0, 1, 1), 10);
            due("the other goes", told("u00;b0000;b0001;p011;p105;").two(1, 0, 1), 1);
        });
    }

    private static void p29Thunders() {
        on(29, "n DAYS (0 .. 7), -4; -6 7", () -> {
            GingerArmy x = told("b2000;");
            due("thunders(0, -1, 2, 0)", x.thunders(0, -1, 2, 0), LONG + 4);
            due("thunders(0, 0, 2, 0)", x.thunders(0, 0, 2, 0), 1);
            due("thunders(0, 7, 2, 0)", x.thunders(0, 7, 2, 0), 1);
            due("thunders(0, 8, 2, 0)", x.thunders(0, 8, 2, 0), LONG + 6);
        });
        on(29, "odds 1 in t (2 .. 20), -4 t below 2; -6 20", () -> {
            // 10 is borne, thunder presses 4, so one of them is too much.
            GingerArmy x = told("u00;b0000;p007;");
            due("t 1", x.thunders(0, 1, 1, 0), LONG + 4);
            due("t 2, above", x.thunders(0, 1, 2, 0), 1);
            due("t 2, below", x.thunders(0, 1, 2, 1), 2);
            due("t 20, above", x.thunders(0, 1, 20, 0), 19);
            due("t 20, below", x.thunders(0, 1, 20, 1), 20);
            due("t 21", x.thunders(0, 1, 21, 0), LONG + 6);
        });
        on(29, "-2, part 0, 1", () -> {
            GingerArmy x = told("b2000;");
            due("part -1", x.thunders(0, 0, 2, -1), LONG + 2);
            due("part 0", x.thunders(0, 0, 2, 0), 1);
            due("part 1", x.thunders(0, 0, 2, 1), 1);
            due("part 2", x.thunders(0, 0, 2, 2), LONG + 2);
        });
        on(29, "-1 as 4000000000000000001", () -> {
            due("none", new GingerArmy().thunders(0, 0, 2, 0), LONG + 1);
            GingerArmy x = told(EIGHT_LEMONS);
            due("the last", x.thunders(7, 7, 20, 0), 1);
            due("one more", x.thunders(8, 7, 20, 0), LONG + 1);
            due("-1", x.thunders(-1, 7, 20, 0), LONG + 1);
        });
        on(29, "in each of n DAYS, by itself: the least and the greatest that is not sure", () -> {
            // A STONE of 0 bears 20 and a thunder presses 3: seven of them are 21.
            GingerArmy x = told("u00;b1000;");
            due("all seven, above", x.thunders(0, 7, 20, 0), 1279999999L);
            due("all seven, below", x.thunders(0, 7, 20, 1), 1280000000L);
            due("all seven by 2, above", x.thunders(0, 7, 2, 0), 127);
            due("all seven by 2, below", x.thunders(0, 7, 2, 1), 128);
            due("six, above", x.thunders(0, 6, 2, 0), 1);
            GingerArmy y = told("u00;b0000;p007;");
            due("not one, above", y.thunders(0, 7, 20, 0), 893871739L);
            due("not one, below", y.thunders(0, 7, 20, 1), 1280000000L);
            due("not one by 2, above", y.thunders(0, 7, 2, 0), 1);
            due("not one by 2, below", y.thunders(0, 7, 2, 1), 128);
        });
        on(29, "0 as 0 over 1", () -> {
            GingerArmy x = told("u00;b0000;p011;d01;b0000;p111;");
            due("a BURST one, above", x.thunders(0, 0, 20, 0), 0);
            due("a BURST one, below", x.thunders(0, 0, 20, 1), 1);
            due("one that goes at once, above", x.thunders(1, 7, 20, 0), 0);
            due("one that goes at once, below", x.thunders(1, 7, 20, 1), 1);
            due("it is WHOLE now", x.thunders(1, 0, 20, 0), 1);
        });
        on(29, "in lowest terms", () -> {
            // Two days, a thunder presses 4: 3, 7, 11 by both alone.
            GingerArmy x = told("u00;b0000;p003;");
            due("above", x.thunders(0, 2, 2, 0), 3);
            due("below", x.thunders(0, 2, 2, 1), 4);
            // Three days, one at most: 4 of 8.
            due("above", x.thunders(0, 3, 2, 0), 1);
            due("below", x.thunders(0, 3, 2, 1), 2);
            // Two days by 4, not both: 15 of 16; three by 4, one at most: 27 and 27 of 64.
            due("above", x.thunders(0, 3, 4, 0), 27);
            due("below", x.thunders(0, 3, 4, 1), 32);
        });
        on(29, "HEAT is 9, else as it is", () -> {
            GingerArmy x = told("u09;b0000;p006;");
            due("hot already, above", x.thunders(0, 1, 2, 0), 1);
            due("hot already, below", x.thunders(0, 1, 2, 1), 1);
            GingerArmy y = told("u08;b0000;p006;");
            due("as hot, cut", y.thunders(0, 1, 2, 1), 1);
            GingerArmy z = told("u07;b0000;p007;");
            due("hotter, above", z.thunders(0, 1, 2, 0), 1);
            due("hotter, below", z.thunders(0, 1, 2, 1), 2);
        });
    }

    private static void p41Lots() {
        on(41, "n summers (1 .. 20), -4; -6 20", () -> {
            GingerArmy x = told(EIGHT_LEMONS);
            due("lots(0, 5, 0)", x.lots(0, 5, 0), -4);
            due("lots(1, 5, 0)", x.lots(1, 5, 0), 8);
            due("lots(20, 5, 0)", x.lots(20, 5, 0), 160);
            due("lots(21, 5, 0)", x.lots(21, 5, 0), -6);
        });
        on(41, "-2, what 0, 1", () -> {
            GingerArmy x = told("b2000;p007;");
            due("lots(2, 5, -1)", x.lots(2, 5, -1), -2);
            due("lots(2, 5, 0)", x.lots(2, 5, 0), 2);
            due("lots(2, 5, 1)", x.lots(2, 5, 1), 14);
            due("lots(2, 5, 2)", x.lots(2, 5, 2), -2);
        });
        on(41, "no BOTTLES", () -> {
            due("lots(20, 5, 0)", new GingerArmy().lots(20, 5, 0), 0);
            due("lots(20, 5, 1)", new GingerArmy().lots(20, 5, 1), 0);
        });
        on(41, "PRESS of these, 8 at 99", () ->
            due("lots(20, 5, 1)", told(EIGHT_LEMONS + "p099;p199;p299;p399;p499;p599;p699;p799;").lots(20, 5, 1), 15840));
        on(41, "each from now: 10 DAYS", () -> {
            GingerArmy x = told("b4000;p089;");
            due("89 and 10", x.lots(1, 5, 1), 99);
            due("each", x.lots(3, 5, 1), 297);
            due("88 and 10", told("b4000;p088;").lots(1, 5, 1), 98);
            due("the next summer is from now", told("b4000;").lots(2, 5, 1), 20);
        });
        on(41, "z times 1103515245 plus 12345 (an int, wrapping)", () -> {
            for (int z : new int[] {0, 1, -1, 5, LOW, LOW + 1, HIGH, HIGH - 1, 65535, 65536, -65536, 1103515245, 987654321}) {
                GingerArmy x = told("u00;b1900;");
                due("one summer by " + z, x.lots(1, z, 1), pressOfStone(1, z));
                due("20 summers by " + z, x.lots(20, z, 1), pressOfStone(20, z));
            }
        });
        on(41, "without its sign's bit", () -> {
            // A seed whose first draw has the sign: the same seed without it draws the same low bits.
            GingerArmy x = told("u00;b1900;");
            for (int z = -20; z <= 20; z++) {
                due("by " + z, x.lots(1, z, 1), x.lots(1, z ^ LOW, 1));
            }
        });
    }

    /** What a STONE of 9 presses by no SUGAR in all summers, by draws of whole numbers held to 32 bits; 30 is borne. */
    private static int pressOfStone(int n, int seed) {
        java.math.BigInteger z = java.math.BigInteger.valueOf(seed);
        java.math.BigInteger most = java.math.BigInteger.TWO.pow(32);
        int sum = 0;
        for (int d = 0; d < 10 * n; d++) {
            z = z.multiply(java.math.BigInteger.valueOf(1103515245)).add(java.math.BigInteger.valueOf(12345)).mod(most);
            int heat = z.mod(java.math.BigInteger.TWO.pow(31)).shiftRight(16).intValue() % 10;
            sum += Math.max(0, heat / 2 - 1);
        }
        return sum;
    }

    /** All questions of what would be, with a row of what 1 presses. */
    private static long[] questions(GingerArmy x) {
        for (int d = 0; d < 4; d++) {
            x.row(x.pressIn(1, d));
        }
        return new long[] {x.pressIn(0, 60), x.then(60, 0), x.then(9, 1), x.then(60, 2), x.goes(0), x.goes(1), x.goes(-1), x.quiet(),
            x.takes(1), x.worst(0), x.worst(1), x.safe(1, 60), x.towel(60), x.towel(6), x.spoon(60, 0), x.spoon(60, 1),
            x.out(60), x.ready(1, 9, 60), x.feedFor(1, 15), x.move(60), x.move(6), x.halved(), x.whoWent(), x.whatKind(1, 0),
            x.whatKind(1, 1), x.two(1, 2, 60), x.thunders(1, 7, 3, 0), x.thunders(1, 7, 3, 1), x.pairs(1), x.pairs(2), x.pairs(3),
            x.eased(1, 2, 60), x.lots(20, 5, 0), x.lots(20, 5, 1)};
    }

    private static void inMind() {
        String cellar = "u22;b0000;b0401;b1903;b4905;b2914;b3310;p104;p312;";
        int[] promises = {12, 13, 13, 13, 14, 14, 14, 15, 16, 17, 17, 18, 19, 19, 20, 20, 21, 22, 23, 24, 24, 25, 26, 27, 27, 28, 29, 29,
            35, 35, 35, 36, 41, 41};
        long[] early = questions(told(cellar));
        long[] late = questions(lateCellar(cellar));
        due("as many promises as questions", promises.length, early.length);
        for (int i = 0; i < promises.length; i++) {
            int which = i;
            on(promises[i], "DAY may pass 999 there (question " + i + ")", () ->
                due("at DAY 999", late[which], early[which]));
        }
        on(12, "In mind: all stays as it is", () -> {
            GingerArmy x = lateCellar(cellar);
            questions(x);
            x.clear();
            for (long many : refusals(x)) {
                due("refusals", many, 0);
            }
            Check.holds("nothing changed", seen(x).equals(seen(lateCellar(cellar))));
        });
    }

    private static GingerArmy lateCellar(String cellar) {
        GingerArmy x = told(DAY_999);
        due("a cellar", tell(x, cellar) > 0 ? 1 : 0, 1);
        due("day", x.count(1), 999);
        return x;
    }
}
