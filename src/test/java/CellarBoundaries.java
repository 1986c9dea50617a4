/** The boundaries that the document names for a CELLAR told in letters (promise 3), each by a test of its own. */
final class CellarBoundaries extends Cellars {
    private static final String[] STATEMENTS = {"b1901;", "p012;", "t0;", "u34;", "o0;", "d05;"};
    private static final String DAY_999 = "d60;".repeat(16) + "d39;";

    private CellarBoundaries() {
    }

    static void run() {
        letters();
        form();
        numbersThatFit();
        numbersOutOfRange();
        bottles();
        room();
        days();
        allOrNothing();
    }

    private static void on(String words, Runnable test) {
        Check.sentence(3, words, test);
    }

    private static int tellNew(String text) {
        return tell(new GingerArmy(), text);
    }

    private static void letters() {
        on("At least one STATEMENT", () -> {
            due("no letters", new GingerArmy().cellar(), -1000);
            due("one", tellNew("u00;"), 1);
        });
        on("the shortest STATEMENTS", () -> {
            GingerArmy x = told("b0000;");
            due("t0;", tell(x, "t0;"), 1);
            due("o0;", tell(x, "o0;"), 1);
        });
        on("96 at most: as many STATEMENTS as can be", () -> {
            GingerArmy x = told("b2000;");
            due("32 of 3 letters", tell(x, "t0;".repeat(32)), 32);
            due("turned 32 times", x.bottleOf(0, 5), 0);
            due("31 of 3 letters and more", tell(x, "t0;".repeat(31)), 31);
            due("turned 31 times", x.bottleOf(0, 5), 1);
            due("24 of 4 letters", tell(x, "u00;".repeat(23) + "u97;"), 24);
            due("the last letter counts", x.count(3), 7);
        });
        on("96 at most: the end, if something lacks", () -> {
            due("96 letters, a digit for the last", tellNew("u00;".repeat(23) + "u000"), -1095);
            due("96 letters, the last statement lacks", tellNew("u00;".repeat(23) + "b000"), -1096);
            due("96 letters, the last is wrong", tellNew("u00;".repeat(23) + "u00:"), -1095);
            due("95 letters", tellNew("u00;".repeat(23) + "u00"), -1095);
        });
        on("96 at most: the last STATEMENT is not as it must be", () ->
            due("at 92", tellNew("u00;".repeat(23) + "d00;"), -2092));
        on("which are no more then (with a FAULT neither)", () -> {
            GingerArmy x = new GingerArmy();
            due("a fault of kind 1", tell(x, "u5"), -1002);
            due("letters", x.count(6), 0);
            due("a fault of kind 2", tell(x, "d00;"), -2000);
            due("letters", x.count(6), 0);
            due("none", tell(x, "u55;"), 1);
            due("letters", x.count(6), 0);
            due("told again it has none", x.cellar(), -1000);
        });
        on("nothing is counted", () -> {
            GingerArmy x = told("b0000;");
            due("faults", tell(x, "") + tell(x, "x") + tell(x, "b0000;") + tell(x, "d61;"), -6000);
            for (long many : refusals(x)) {
                due("refusals", many, 0);
            }
        });
    }

    /** Each of the 256 letters at each place of each STATEMENT, and each end that comes too early. */
    private static void form() {
        for (String statement : STATEMENTS) {
            on("kind 1 the place of the first letter with which no CELLAR can go on: " + statement, () -> {
                for (int place = 0; place < statement.length(); place++) {
                    for (int letter = 0; letter <= 255; letter++) {
                        oneLetterOther(statement, place, (char) letter);
                    }
                }
            });
            on("kind 1, the end, if something lacks: " + statement, () -> {
                for (int end = 1; end < statement.length(); end++) {
                    due("ends at " + end, tellNew(statement.substring(0, end)), -1000 - end);
                    due("ends at " + end, tellNew("u22;" + statement.substring(0, end)), -1004 - end);
                }
            });
            on("with \";\" behind each: " + statement, () -> {
                String text = statement.substring(0, statement.length() - 1);
                due("another begins", tellNew(text + "u00;"), -1000 - text.length());
                due("a digit more", tellNew(text + "0;"), -1000 - text.length());
                due("one too many", tellNew(statement + ";"), -1000 - statement.length());
            });
        }
        on("kind 1, else kind 2", () -> {
            due("kind 2 first in the text", tellNew("d00;u0"), -1006);
            due("kind 2 alone", tellNew("d00;u00;"), -2000);
            due("kind 2 twice", tellNew("u00;d00;d61;"), -2004);
        });
    }

    private static boolean fits(String statement, int place, char letter) {
        if (place == 0) return "bptuod".indexOf(letter) >= 0;
        if (place == statement.length() - 1) return letter == ';';
        return letter >= '0' && letter <= '9';
    }

    private static void oneLetterOther(String statement, int place, char letter) {
        GingerArmy x = new GingerArmy();
        x.bottle(2, 0, 0);
        String text = statement.substring(0, place) + letter + statement.substring(place + 1);
        for (int i = 0; i < text.length(); i++) {
            x.feed(text.charAt(i));
        }
        int answer = x.cellar();
        if (fits(statement, place, letter)) {
            Check.holds("letter " + (int) letter + " at " + place + " answered " + answer, answer != -1000 - place);
        } else {
            due("letter " + (int) letter + " at " + place, answer, -1000 - place);
        }
    }

    /** A statement behind what makes it fit, in one text and in two. */
    private static void comes(String ahead, String statement) {
        int statements = (ahead + statement).replaceAll("[^;]", "").length();
        due(ahead + statement, tellNew(ahead + statement), statements);
        GingerArmy x = new GingerArmy();
        if (!ahead.isEmpty()) tell(x, ahead);
        due(ahead + " then " + statement, tell(x, statement), 1);
    }

    private static void isWrong(String ahead, String statement) {
        due(ahead + statement, tellNew(ahead + statement), -2000 - ahead.length());
        GingerArmy x = new GingerArmy();
        if (!ahead.isEmpty()) tell(x, ahead);
        due(ahead + " then " + statement, tell(x, statement), -2000);
    }

    private static void numbersThatFit() {
        on("\"b\" KIND 0 and 5, FIGURE 0 and 9, PLACE 00 and 14", () -> {
            comes("", "b0000;");
            comes("", "b5000;");
            comes("", "b0900;");
            comes("", "b5914;");
            GingerArmy x = told("b5914;b0000;");
            int[] last = {5, 9, 14};
            for (int what = 0; what < last.length; what++) {
                due("bottleOf(0, " + what + ")", x.bottleOf(0, what), last[what]);
                due("bottleOf(1, " + what + ")", x.bottleOf(1, what), 0);
            }
        });
        on("\"p\" PRESS 00 and 99", () -> {
            comes("b2000;", "p000;");
            comes("b2000;", "p099;");
            due("99", told("b2000;p099;").bottleOf(0, 3), 99);
            due("00", told("b2000;p099;p000;").bottleOf(0, 3), 0);
            due("10 is no 01", told("b2000;p010;").bottleOf(0, 3), 10);
        });
        on("\"u\" SUGAR, HEAT 0 and 9", () -> {
            comes("", "u00;");
            comes("", "u99;");
            GingerArmy x = told("u90;");
            due("sugar", x.count(2), 9);
            due("heat", x.count(3), 0);
            tell(x, "u09;");
            due("sugar", x.count(2), 0);
            due("heat", x.count(3), 9);
        });
        on("\"d\" DAYS 01 and 60", () -> {
            comes("", "d01;");
            comes("", "d60;");
            due("01", told("d01;").count(1), 1);
            due("60", told("d60;").count(1), 60);
            due("10 is no 01", told("d10;").count(1), 10);
        });
        on("\"o\": it is let out (PRESS 0)", () -> {
            due("from 99", told("b2000;p099;o0;").bottleOf(0, 3), 0);
            due("from 0", told("b2000;o0;").bottleOf(0, 3), 0);
        });
        on("\"t\": under a TOWEL, or, told again, not", () -> {
            due("once", told("b2000;t0;").bottleOf(0, 5), 1);
            due("again", told("b2000;t0;t0;").bottleOf(0, 5), 0);
            due("a third time", told("b2000;t0;t0;t0;").bottleOf(0, 5), 1);
        });
    }

    private static void numbersOutOfRange() {
        on("kind 2: a number out of range, KIND", () -> {
            for (int kind = 6; kind <= 9; kind++) {
                isWrong("", "b" + kind + "000;");
                isWrong("b2000;", "b" + kind + "001;");
            }
        });
        on("kind 2: a number out of range, PLACE", () -> {
            for (int place = 15; place <= 99; place++) {
                isWrong("", "b00" + place + ";");
            }
            for (int place = 0; place <= 14; place++) {
                comes("", "b00" + (place < 10 ? "0" : "") + place + ";");
            }
        });
        on("kind 2: a number out of range, DAYS", () -> {
            isWrong("", "d00;");
            isWrong("u00;", "d61;");
            isWrong("", "d99;");
        });
    }

    private static void bottles() {
        for (String letter : new String[] {"p", "t", "o"}) {
            String press = letter.equals("p") ? "00;" : ";";
            on("kind 2: no such BOTTLE, \"" + letter + "\"", () -> {
                isWrong("", letter + "0" + press);
                isWrong("b2000;", letter + "1" + press);
                isWrong("b2000;", letter + "9" + press);
                comes("b2000;", letter + "0" + press);
                comes("b2000;b2001;", letter + "1" + press);
                comes(EIGHT_LEMONS, letter + "7" + press);
                isWrong(EIGHT_LEMONS, letter + "8" + press);
                isWrong(EIGHT_LEMONS, letter + "9" + press);
            });
            on("kind 2: one BURST, \"" + letter + "\"", () -> {
                comes("b0000;p011;", letter + "0" + press);
                isWrong("b0000;p011;d01;", letter + "0" + press);
                isWrong("b0000;p011;b2001;t0;d01;", letter + "0" + press);
                comes("b0000;p011;b2001;t0;d01;", letter + "1" + press);
            });
        }
        on("kind 2: a PLACE with one WHOLE in it", () -> {
            isWrong("b2000;", "b0000;");
            isWrong("b2014;b2000;", "b0014;");
            isWrong("b0000;p011;", "b0000;");
            comes("b2000;", "b0001;");
            comes("b0000;p011;d01;", "b0000;");
            isWrong("b0000;p011;d01;b2000;", "b0000;");
        });
    }

    private static void room() {
        on("kind 2: no room, BOTTLES (8 at most)", () -> {
            comes(EIGHT_LEMONS.substring(0, 42), "b2007;");
            isWrong(EIGHT_LEMONS, "b2008;");
            isWrong(EIGHT_LEMONS, "b2000;");
            due("the numbers", told(EIGHT_LEMONS).at(7), 7);
        });
        on("kind 2: no room, BURST ones too", () ->
            isWrong("b0000;b0001;b0002;b0003;b0004;b0005;b0006;b0007;d60;", "b0008;"));
        on("a BOTTLE more: behind those there are", () -> {
            GingerArmy x = told("b2000;b2001;");
            due("two more", tell(x, "b2002;b2003;"), 2);
            due("bottles", x.count(0), 4);
            due("at(3)", x.at(3), 3);
        });
    }

    private static void days() {
        on("kind 2: DAY above 999", () -> {
            due("999", told(DAY_999).count(1), 999);
            isWrong(DAY_999, "d01;");
            isWrong("d60;".repeat(16), "d40;");
            comes("d60;".repeat(16), "d39;");
            isWrong(DAY_999, "d60;");
            comes(DAY_999, "u00;");
        });
        on("kind 2: behind all ahead of it in the text", () -> {
            isWrong("b0000;p010;u10;d01;", "o0;");
            comes("b0000;p010;u00;d01;", "o0;");
            comes("b0000;p011;o0;d01;", "o0;");
            isWrong("b0000;b0001;p011;p105;u00;d01;", "p100;");
            comes("b0000;b0001;p011;p105;u00;t1;d01;", "p100;");
        });
    }

    private static void allOrNothing() {
        on("Without FAULT all of it comes, with one nothing", () -> {
            String recipe = "u34;b0500;b2902;b1905;p004;";
            String changes = "u99;b2007;p100;t0;t1;o2;p012;d01;";
            for (String fault : new String[] {"d00;", "b2007;", "p900;", "x", "u0"}) {
                GingerArmy x = prepared(recipe);
                GingerArmy twin = prepared(recipe);
                int due = fault.endsWith(";") ? -2000 - changes.length() : -1000 - changes.length() - fault.indexOf('0') - 1;
                due(fault, tell(x, changes + fault), due);
                Check.holds("nothing comes with " + fault, seen(x).equals(seen(twin)));
            }
            GingerArmy x = prepared(recipe);
            due("without fault", tell(x, changes), 8);
            due("bottles", x.count(0), 4);
            due("to take back", x.count(8), 0);
        });
        on("with one nothing: nor with the next CELLAR", () -> {
            GingerArmy x = told("b2000;");
            due("a fault behind changes", tell(x, "u99;b2001;t0;p050;d60;d00;"), -2022);
            due("the next", tell(x, "b2002;"), 1);
            int[] counts = {2, 0, 2, 0, 3, 0, 0, 0, 0};
            for (int what = 0; what < counts.length; what++) {
                due("count(" + what + ")", x.count(what), counts[what]);
            }
            due("its place", x.bottleOf(1, 2), 2);
            due("no towel", x.bottleOf(0, 5), 0);
        });
        on("it comes on what there is now", () -> {
            GingerArmy x = told("b2000;b0014;");
            x.feeds(0, 7);
            x.feeds(1, 6);
            x.days(1);
            x.outs(1);
            x.towels(0);
            x.bottle(2, 9, 3);
            due("one more", tell(x, "b2001;"), 1);
            int[] counts = {4, 1, 7, 6, 15, 0};
            for (int what = 0; what < counts.length; what++) {
                due("count(" + what + ")", x.count(what), counts[what]);
            }
            due("towel", x.bottleOf(0, 5), 1);
            x.image();
            x.feeds(0, 0);
            x.restore();
            due("and one more", tell(x, "t0;"), 1);
            due("sugar", x.count(2), 7);
        });
        on("how many STATEMENTS", () -> {
            GingerArmy x = new GingerArmy();
            for (int many = 1; many <= 8; many++) {
                due("statements", tell(x, "d01;".repeat(many)), many);
            }
            due("day", x.count(1), 36);
        });
    }

    /** A cellar with an image, three changes and a row of two. */
    private static GingerArmy prepared(String recipe) {
        GingerArmy x = told(recipe);
        x.image();
        x.feeds(0, 5);
        x.days(1);
        x.towels(2);
        x.row(5);
        x.row(6);
        return x;
    }
}
