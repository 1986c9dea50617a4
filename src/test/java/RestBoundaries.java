/** The boundaries that parts III and IV and promises 30 to 44 (but 41) name, each sentence by a test of its own. */
final class RestBoundaries extends Cellars {
    /** Eight BOTTLES of figure 0 at every second PLACE, each within 2 of the next. */
    private static final String EIGHT_IN_A_ROW = "b0000;b0002;b0004;b0006;b0008;b0010;b0012;b0014;";

    private RestBoundaries() {
    }

    static void run() {
        p30Shares();
        p31Tightest();
        p31GapAndLost();
        p32Near();
        p33Mean();
        p34Spare();
        p35Pairs();
        p35Calm();
        p35LoudAndEnd();
        p36Eased();
        p37Officers();
        p38Row();
        p39Judge();
        p40Clear();
        p42Image();
        p43Restore();
        p44Count();
    }

    private static void on(int promise, String words, Runnable test) {
        Check.sentence(promise, words, test);
    }

    private static void p30Shares() {
        on(30, "n (1 .. 9), -4 1; -6 9", () -> {
            GingerArmy x = told("u90;");
            due("shares(0, 0)", x.shares(0, 0), -4);
            due("shares(1, 0)", x.shares(1, 0), 9);
            due("shares(1, 1)", x.shares(1, 1), 0);
            due("shares(9, 0)", x.shares(9, 0), 1);
            due("shares(9, 1)", x.shares(9, 1), 0);
            due("shares(10, 0)", x.shares(10, 0), -6);
        });
        on(30, "-2, what 0, 1", () -> {
            GingerArmy x = new GingerArmy();
            due("what -1", x.shares(2, -1), -2);
            due("what 0", x.shares(2, 0), 1);
            due("what 1", x.shares(2, 1), 0);
            due("what 2", x.shares(2, 2), -2);
        });
        on(30, "SUGAR over n, cut; what is over", () -> {
            GingerArmy x = told("u80;");
            due("8 over 9", x.shares(9, 0), 0);
            due("8 is over", x.shares(9, 1), 8);
            due("8 over 5", x.shares(5, 0), 1);
            due("3 is over", x.shares(5, 1), 3);
            GingerArmy y = told("u09;");
            due("0 over 9", y.shares(9, 0), 0);
            due("none is over", y.shares(9, 1), 0);
        });
    }

    private static void p31Tightest() {
        on(31, "-9, none WHOLE", () -> {
            due("no bottles", new GingerArmy().tightest(0), -9);
            due("all burst", told("b0000;p011;d01;").tightest(0), -9);
        });
        on(31, "-2, what 0 .. 2", () -> {
            GingerArmy x = told("b2000;");
            due("tightest(-1)", x.tightest(-1), -2);
            due("tightest(0)", x.tightest(0), 0);
            due("tightest(1)", x.tightest(1), 14);
            due("tightest(2)", x.tightest(2), 0);
            due("tightest(3)", x.tightest(3), -2);
        });
        on(31, "of several the least", () -> {
            due("of 8", told(EIGHT_LEMONS).tightest(0), 0);
            due("of two", told("b2000;b0001;b0002;").tightest(0), 1);
            due("the last of 8", told(EIGHT_LEMONS + "p701;").tightest(0), 7);
        });
        on(31, "BEARS least beyond its PRESS, which may be above it", () -> {
            due("0 beyond, 1 above", told("b0000;b0005;p010;p111;").tightest(0), 1);
            due("1 beyond, 0 beyond", told("b0000;b0005;p009;p110;").tightest(0), 1);
            due("99 above and 98", told("b0000;b0005;p099;p198;").tightest(0), 0);
        });
    }

    private static void p31GapAndLost() {
        on(31, "GAP: the longest run of free PLACES", () -> {
            due("all 15", new GingerArmy().tightest(1), 15);
            due("all but the first", told("b2000;").tightest(1), 14);
            due("all but the last", told("b2014;").tightest(1), 14);
            due("7 and 7", told("b2007;").tightest(1), 7);
            due("at the beginning", told("b2005;b2008;b2012;").tightest(1), 5);
            due("at the end", told("b2002;b2005;b2009;").tightest(1), 5);
            due("in the middle", told("b2003;b2010;").tightest(1), 6);
            due("1 between each", told(EIGHT_IN_A_ROW).tightest(1), 1);
            due("behind 8", told(EIGHT_LEMONS).tightest(1), 7);
        });
        on(31, "GAP: a BURST one's PLACE is free", () ->
            due("all 15", told("b0007;p011;d01;").tightest(1), 15));
        on(31, "LOST: how many are BURST", () -> {
            due("none there", new GingerArmy().tightest(2), 0);
            due("none of 8", told(EIGHT_LEMONS).tightest(2), 0);
            due("all of 8", told(EIGHT_IN_A_ROW + "d06;").tightest(2), 8);
            due("1 of 2", told("b0000;b2001;p011;d01;").tightest(2), 1);
        });
    }

    private static void p32Near() {
        on(32, "-1", () -> {
            due("none", new GingerArmy().near(0), -1);
            GingerArmy x = told(EIGHT_LEMONS);
            due("near(-1)", x.near(-1), -1);
            due("near(0), itself not", x.near(0), 2 + 4);
            due("near(7), itself not", x.near(7), 32 + 64);
            due("near(8)", x.near(8), -1);
        });
        on(32, "no farther than 2 PLACES off", () -> {
            GingerArmy x = told("b2007;b2004;b2005;b2006;b2008;b2009;b2010;");
            due("near(0)", x.near(0), 4 + 8 + 16 + 32);
            due("none is", told("b2000;b2003;b2014;b2011;").near(0), 0);
            due("the shelf is no ring", told("b2000;b2014;b2013;").near(0), 0);
        });
        on(32, "WHOLE", () -> {
            GingerArmy x = told("b0000;b2001;p011;d01;");
            due("a BURST one is not", x.near(1), 0);
            due("those of a BURST one", x.near(0), 2);
        });
    }

    private static void p33Mean() {
        on(33, "a fraction (0 over 1 of none)", () -> {
            due("above", new GingerArmy().mean(0), 0);
            due("below", new GingerArmy().mean(1), 1);
            GingerArmy x = told("b0000;p011;d01;");
            due("all BURST, above", x.mean(0), 0);
            due("all BURST, below", x.mean(1), 1);
        });
        on(33, "0 as 0 over 1", () -> {
            due("above", told(EIGHT_LEMONS).mean(0), 0);
            due("below", told(EIGHT_LEMONS).mean(1), 1);
        });
        on(33, "in lowest terms", () -> {
            GingerArmy x = told(EIGHT_LEMONS + "p099;p199;p299;p399;p499;p599;p699;p799;");
            due("792 over 8, above", x.mean(0), 99);
            due("792 over 8, below", x.mean(1), 1);
            tell(x, "p798;");
            due("791 over 8, above", x.mean(0), 791);
            due("791 over 8, below", x.mean(1), 8);
            tell(x, "p797;");
            due("790 over 8, above", x.mean(0), 395);
            due("790 over 8, below", x.mean(1), 4);
        });
        on(33, "of WHOLE ones", () -> {
            GingerArmy x = told("b0000;b2005;p011;p107;d01;");
            due("above", x.mean(0), 7);
            due("below", x.mean(1), 1);
        });
        on(33, "-2, part 0, 1", () -> {
            GingerArmy x = new GingerArmy();
            due("part -1", x.mean(-1), LONG + 2);
            due("part 2", x.mean(2), LONG + 2);
        });
    }

    private static void p34Spare() {
        on(34, "how much PRESS one BEARS more (0 at least)", () -> {
            GingerArmy x = told("b0000;p009;");
            due("1", x.spare(0), 1);
            tell(x, "p010;");
            due("0", x.spare(0), 0);
            tell(x, "p011;");
            due("above it", x.spare(0), 0);
            tell(x, "p099;");
            due("far above it", x.spare(0), 0);
            due("a LEMON of nothing", told("b2000;").spare(0), 99);
            due("a LEMON of 99", told("b2000;p099;").spare(0), 0);
        });
        on(34, "-1", () -> {
            due("none", new GingerArmy().spare(0), -1);
            GingerArmy x = told(EIGHT_LEMONS);
            due("spare(-1)", x.spare(-1), -1);
            due("spare(7)", x.spare(7), 99);
            due("spare(8)", x.spare(8), -1);
        });
    }

    private static void p35Pairs() {
        on(35, "-2, what 0 .. 3", () -> {
            GingerArmy x = told("b2000;");
            due("pairs(-1)", x.pairs(-1), -2);
            due("pairs(0)", x.pairs(0), 0);
            due("pairs(1)", x.pairs(1), 9);
            due("pairs(2)", x.pairs(2), 0);
            due("pairs(3)", x.pairs(3), -9);
            due("pairs(4)", x.pairs(4), -2);
        });
        on(35, "PAIRS: twos of WHOLE ones NEAR each other", () -> {
            due("none there", new GingerArmy().pairs(0), 0);
            due("two off", told("b2000;b2002;").pairs(0), 1);
            due("three off", told("b2000;b2003;").pairs(0), 0);
            due("8 side by side", told(EIGHT_LEMONS).pairs(0), 13);
            due("8 at every second", told(EIGHT_IN_A_ROW).pairs(0), 7);
            due("the shelf is no ring", told("b2000;b2014;").pairs(0), 0);
        });
        on(35, "PAIRS: of WHOLE ones", () -> {
            due("0 BURST", told("b0000;b2001;p011;d01;").pairs(0), 0);
            due("1 BURST", told("b2000;b0001;p111;d01;").pairs(0), 0);
        });
    }

    private static void p35Calm() {
        on(35, "CALM: the greatest HEAT (0 .. 9), each", () -> {
            // By no SUGAR a BOTTLE of 0 rises the half of HEAT, and 10 is borne.
            due("9", told("u00;b0000;p006;").pairs(1), 9);
            due("7", told("u00;b0000;p007;").pairs(1), 7);
            due("5", told("u00;b0000;p008;").pairs(1), 5);
            due("3", told("u00;b0000;p009;").pairs(1), 3);
            due("1", told("u00;b0000;p010;").pairs(1), 1);
        });
        on(35, "CALM; -9", () -> {
            due("with 0 one BURSTS", told("u00;b0000;p011;").pairs(1), -9);
            due("of any HEAT now", told("u09;b0000;p010;").pairs(1), 1);
            due("none there", new GingerArmy().pairs(1), 9);
            due("a BURST one counts not", told("b0000;p011;d01;").pairs(1), 9);
        });
    }

    private static void p35LoudAndEnd() {
        on(35, "LOUD: how many BURST in the next DAY", () -> {
            due("none there", new GingerArmy().pairs(2), 0);
            due("none", told(EIGHT_LEMONS).pairs(2), 0);
            due("all 8", told(EIGHT_IN_A_ROW + "p011;p105;p205;p305;p405;p505;p605;p705;").pairs(2), 8);
            due("one BURST already counts not", told("b0000;p011;d01;").pairs(2), 0);
            due("in the second DAY is not in the next", told("b0000;b0005;p007;p109;").pairs(2), 1);
        });
        on(35, "END: 0 none there", () -> {
            due("no bottles", new GingerArmy().pairs(3), 0);
            due("all BURST", told("b0000;p011;d01;").pairs(3), 0);
        });
        on(35, "END: behind how many DAYS all are BURST first", () -> {
            due("1", told("u00;b0000;b0001;p011;p111;").pairs(3), 1);
            due("the last of two", told("b0000;b0005;p011;").pairs(3), 6);
            due("39", told("b1900;b0005;").pairs(3), 39);
        });
        on(35, "END; -9", () -> {
            due("one never goes", told("b0000;b2001;").pairs(3), -9);
            due("SUGAR as it is", told("u00;b0000;p010;").pairs(3), -9);
        });
    }

    private static void p36Eased() {
        on(36, "-1 as 1000000001 (one twice, too)", () -> {
            due("none", new GingerArmy().eased(0, 1, 0), EASED + 1);
            GingerArmy x = told(EIGHT_LEMONS);
            due("one twice", x.eased(7, 7, 0), EASED + 1);
            due("eased(7, 0, 0)", x.eased(7, 0, 0), 0);
            due("eased(0, 7, 0)", x.eased(0, 7, 0), 0);
            due("eased(8, 0, 0)", x.eased(8, 0, 0), EASED + 1);
            due("eased(0, 8, 0)", x.eased(0, 8, 0), EASED + 1);
            due("eased(-1, 0, 0)", x.eased(-1, 0, 0), EASED + 1);
            due("eased(0, -1, 0)", x.eased(0, -1, 0), EASED + 1);
        });
        on(36, "n DAYS, -4; -6 60", () -> {
            GingerArmy x = told("u00;b0000;b2001;p011;");
            due("eased(1, 0, -1)", x.eased(1, 0, -1), EASED + 4);
            due("eased(1, 0, 0)", x.eased(1, 0, 0), 0);
            due("eased(1, 0, 1)", x.eased(1, 0, 1), 6);
            due("eased(1, 0, 60)", x.eased(1, 0, 60), 6);
            due("eased(1, 0, 61)", x.eased(1, 0, 61), EASED + 6);
        });
        on(36, "no SHOCK by it", () ->
            due("it would be shocked at once", told("u00;b0000;b2001;").eased(1, 0, 60), 0));
        on(36, "were another one BURST: the last of 8", () -> {
            GingerArmy x = told("u00;b2000;b2001;b2002;b2003;b2004;b2005;b2014;b0013;p711;");
            due("eased(6, 7, 1)", x.eased(6, 7, 1), 6);
            due("eased(0, 7, 1)", x.eased(0, 7, 1), 0);
            due("eased(7, 6, 1)", x.eased(7, 6, 1), 0);
        });
        on(36, "(may be below 0)", () -> {
            // Shocked at 9 by the other it goes with 15; else it goes with 18 a day later.
            due("-3", told("u90;b0000;b0001;p011;").eased(1, 0, 2), -3);
            due("ahead of it", told("u90;b0000;b0001;p011;").eased(1, 0, 1), 6);
        });
        on(36, "were another one BURST long ago: one that is so", () -> {
            GingerArmy x = told("b0000;b2001;p011;d01;");
            due("another", x.eased(1, 0, 60), 0);
            due("the one", x.eased(0, 1, 60), 0);
        });
        on(36, "99 held", () ->
            due("99 less 96", told("u00;b3000;b2001;p099;p196;").eased(1, 0, 1), 3));
    }

    private static void p37Officers() {
        on(37, "-2, KINDS 0 .. 5", () -> {
            GingerArmy x = told("b0000;b1001;b2002;b3003;b4004;b5005;b5006;");
            due("officers(-1)", x.officers(-1), -2);
            due("officers(0)", x.officers(0), 1);
            due("officers(5)", x.officers(5), 2);
            due("officers(6)", x.officers(6), -2);
        });
        on(37, "how many of a KIND are WHOLE: none and 8", () -> {
            due("none there", new GingerArmy().officers(0), 0);
            due("8", told(EIGHT_LEMONS).officers(2), 8);
            due("none of another", told(EIGHT_LEMONS).officers(0), 0);
            due("BURST ones are not", told(EIGHT_IN_A_ROW + "d06;").officers(0), 0);
        });
    }

    private static void p38Row() {
        on(38, "numbers 0 .. 99, -4; -6 (99", () -> {
            GingerArmy x = new GingerArmy();
            due("row(-1)", x.row(-1), -4);
            due("row(0)", x.row(0), 1);
            due("row(99)", x.row(99), 2);
            due("row(100)", x.row(100), -6);
            due("in the row", x.count(7), 2);
        });
        on(38, "-6 (12, too)", () -> {
            GingerArmy x = new GingerArmy();
            for (int i = 1; i <= 12; i++) {
                due("number " + i, x.row(i), i);
            }
            due("one more", x.row(13), -6);
            due("in the row", x.count(7), 12);
            x.clear();
            due("room again", x.row(13), 1);
        });
        on(38, "-4 ahead of -6 when there are 12", () -> {
            GingerArmy x = new GingerArmy();
            rows(x, 1, 2, 3, 4, 5, 6, 7, 8, 9, 10, 11, 12);
            due("row(-1)", x.row(-1), -4);
            due("row(100)", x.row(100), -6);
        });
    }

    private static void p39Judge() {
        on(39, "an empty ROW", () -> {
            due("no bottles", new GingerArmy().judge(), -9);
            due("8", told(EIGHT_LEMONS).judge(), -9);
        });
        on(39, "the first that is not so", () -> {
            GingerArmy x = told(EIGHT_LEMONS + "p799;");
            rows(x, 0, 0, 0, 0, 0, 0, 0, 99);
            due("all 8 are so", x.judge(), -9);
            rows(x, 0, 0, 0, 0, 0, 0, 0, 98);
            due("the last is not", x.judge(), 7);
            rows(x, 1, 0, 0, 0, 0, 0, 0, 99);
            due("the first is not", x.judge(), 0);
            rows(x, 0, 0, 0, 5, 0, 5, 0, 99);
            due("of two the first", x.judge(), 3);
        });
        on(39, "(none there, too)", () -> {
            GingerArmy x = new GingerArmy();
            rows(x, 0);
            due("no bottles", x.judge(), 0);
            GingerArmy y = told(EIGHT_LEMONS);
            rows(y, 0, 0, 0, 0, 0, 0, 0, 0, 0, 0, 0, 0);
            due("12 of 8", y.judge(), 8);
            rows(y, 0, 0, 0, 0, 0, 0, 0, 0, 0);
            due("9 of 8", y.judge(), 8);
        });
        on(39, "(whichever it answers, the ROW has none then)", () -> {
            GingerArmy x = told("b2000;");
            rows(x, 0);
            due("so", x.judge(), -9);
            due("in the row", x.count(7), 0);
            rows(x, 1);
            due("not so", x.judge(), 0);
            due("in the row", x.count(7), 0);
            rows(x, 0, 0);
            due("none there", x.judge(), 1);
            due("in the row", x.count(7), 0);
        });
        on(39, "PRESS of a BURST one, as it was when it went", () -> {
            GingerArmy x = told("b0000;p011;d01;d60;");
            rows(x, 13);
            due("13", x.judge(), -9);
        });
    }

    private static void p40Clear() {
        on(40, "how many it had: none, 1, 12", () -> {
            GingerArmy x = new GingerArmy();
            due("none", x.clear(), 0);
            rows(x, 7);
            due("1", x.clear(), 1);
            due("none again", x.clear(), 0);
            rows(x, 1, 2, 3, 4, 5, 6, 7, 8, 9, 10, 11, 12);
            due("12", x.clear(), 12);
            due("in the row", x.count(7), 0);
        });
    }

    private static void p42Image() {
        on(42, "DAY, 0 and 999", () -> {
            due("0", new GingerArmy().image(), 0);
            due("999", told("d60;".repeat(16) + "d39;").image(), 999);
        });
        on(42, "an image of no BOTTLES, and of 8", () -> {
            GingerArmy x = new GingerArmy();
            x.image();
            x.bottle(0, 0, 0);
            due("restore", x.restore(), 0);
            due("bottles", x.count(0), 0);
            due("none to ask", x.bottleOf(0, 0), -1);
            due("its place is free", x.at(0), -9);
            GingerArmy y = told(EIGHT_LEMONS + "p799;t7;");
            y.image();
            y.outs(7);
            y.towels(7);
            y.restore();
            due("bottles", y.count(0), 8);
            due("press of the last", y.bottleOf(7, 3), 99);
            due("its towel", y.bottleOf(7, 5), 1);
        });
        on(42, "the latest IMAGE", () -> {
            GingerArmy x = told("b2000;");
            x.image();
            x.feeds(0, 9);
            x.image();
            x.feeds(0, 5);
            x.restore();
            due("sugar", x.count(2), 9);
        });
    }

    private static void p43Restore() {
        on(43, "-3 there is none", () -> {
            GingerArmy x = new GingerArmy();
            due("none", x.restore(), -3);
            due("image", x.image(), 0);
            due("there is one", x.restore(), 0);
            due("it stays", x.restore(), 0);
        });
        on(43, "THE IMAGE: all that there is of I, but it, letters, the ROW, REFUSALS", () -> {
            GingerArmy x = told("u34;b0500;b2901;t1;p007;d01;");
            x.image();
            tell(x, "u99;b4902;t1;p100;d60;");
            x.feed('x');
            x.row(8);
            due("a refusal", x.at(15), -1);
            due("restore", x.restore(), 1);
            int[] counts = {2, 1, 3, 4, 3, 12, 1, 1, 0};
            for (int what = 0; what < counts.length; what++) {
                due("count(" + what + ")", x.count(what), counts[what]);
            }
            due("refusals", x.count(11), 1);
            due("towel", x.bottleOf(1, 5), 1);
            due("press", x.bottleOf(0, 3), 12);
            due("rises", x.bottleOf(0, 6), 5);
        });
        on(43, "a BURST one is WHOLE again", () -> {
            GingerArmy x = told("b0000;p011;");
            x.image();
            due("burst", x.days(1), 0);
            due("restore", x.restore(), 0);
            due("at(0)", x.at(0), 0);
            due("press", x.bottleOf(0, 3), 11);
        });
    }

    private static void p44Count() {
        on(44, "-9 for another what", () -> {
            GingerArmy x = new GingerArmy();
            for (int what : new int[] {LOW, -1, 9, 10, 17, HIGH}) {
                due("count(" + what + ")", x.count(what), -9);
            }
            for (int what : new int[] {0, 8, 11, 16}) {
                due("count(" + what + ")", x.count(what), 0);
            }
        });
        on(44, "-9 is no REFUSAL", () -> {
            GingerArmy x = new GingerArmy();
            x.count(9);
            x.count(17);
            for (long many : refusals(x)) {
                due("refusals", many, 0);
            }
        });
        on(44, "0 BOTTLES, 8 of them, BURST ones too", () -> {
            due("none", new GingerArmy().count(0), 0);
            due("8", told(EIGHT_LEMONS).count(0), 8);
            due("8 burst", told(EIGHT_IN_A_ROW + "d06;").count(0), 8);
        });
        on(44, "1 DAY, 999", () -> due("999", told("d60;".repeat(16) + "d39;").count(1), 999));
        on(44, "4 WHOLE (bits), 5 PRESS of these", () -> {
            due("bits of none", new GingerArmy().count(4), 0);
            due("bits of 8", told(EIGHT_LEMONS).count(4), 255);
            due("press of 8", told(EIGHT_LEMONS + "p099;p199;p299;p399;p499;p599;p699;p799;").count(5), 792);
            GingerArmy x = told("b0000;b2001;p011;d01;");
            due("bits but a BURST one's", x.count(4), 2);
            due("press but a BURST one's", x.count(5), 6);
        });
        on(44, "6 letters, 96", () -> {
            GingerArmy x = new GingerArmy();
            for (int i = 0; i < 97; i++) {
                x.feed('b');
            }
            due("letters", x.count(6), 96);
        });
        on(44, "7 in the ROW, 12", () -> {
            GingerArmy x = new GingerArmy();
            for (int i = 0; i < 13; i++) {
                x.row(i);
            }
            due("in the row", x.count(7), 12);
        });
        on(44, "8 what can be TAKEN BACK, 8", () -> {
            GingerArmy x = new GingerArmy();
            for (int i = 1; i <= 9; i++) {
                x.days(1);
                due("to take back", x.count(8), Math.min(8, i));
            }
        });
        on(44, "11 .. 16 REFUSALS -1 .. -6", () -> {
            GingerArmy x = new GingerArmy();
            x.at(-1);
            for (int i = 0; i < 2; i++) {
                x.worst(2);
            }
            for (int i = 0; i < 3; i++) {
                x.back();
            }
            for (int i = 0; i < 4; i++) {
                x.days(0);
            }
            for (int i = 0; i < 6; i++) {
                x.days(61);
            }
            long[] due = {1, 2, 3, 4, 0, 6};
            for (int i = 0; i < due.length; i++) {
                due("count(" + (11 + i) + ")", x.count(11 + i), due[i]);
            }
        });
        on(44, "REFUSALS of eased() and of longs, too", () -> {
            GingerArmy x = new GingerArmy();
            x.eased(0, 1, 0);
            x.thunders(0, 0, 2, 0);
            x.mean(2);
            due("-1", x.count(11), 2);
            due("-2", x.count(12), 1);
        });
    }
}
