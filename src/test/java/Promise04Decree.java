public final class Promise04Decree extends Checks {
    public static void main(String[] args) {
        runAll(Promise04Decree.class);
    }

    private static void sound(String text, int lines) {
        HoldSlips x = new HoldSlips();
        due("decree '" + text + "'", decree(x, text), lines);
        due("LINES of '" + text + "'", x.count(6), lines);
        due("FAULT of '" + text + "'", x.fault(0), 0);
    }

    /** The share of a citizen by a decree. */
    private static int share(int rank, boolean widow, String text) {
        HoldSlips x = new HoldSlips();
        x.citizen(rank, widow);
        decree(x, text);
        due("FAULT of '" + text + "'", x.fault(0), 0);
        return x.tell(0, 2);
    }

    static void emptiesTheTape() {
        HoldSlips x = new HoldSlips();
        due("decree", decree(x, "none;"), 1);
        none("end(1)", x.end(1));
        due("decree of nothing", x.decree(), 0);
    }

    static void emptiesTheTapeByAFaultToo() {
        HoldSlips x = new HoldSlips();
        none("decree", decree(x, "none"));
        none("end(1)", x.end(1));
        none("17 LINES", decree(x, "none;".repeat(17)));
        none("end(1)", x.end(1));
    }

    static void isNoneByAFaultAndLeavesTheDecreeBefore() {
        HoldSlips x = new HoldSlips();
        x.citizen(0, false);
        decree(x, "share 4;");
        none("a broken text", decree(x, "share 9;plus 1;share"));
        due("SHARE", x.tell(0, 2), 4);
        due("LINES", x.count(6), 1);
        none("one LINE too many", decree(x, "plus 9;".repeat(17)));
        due("SHARE", x.tell(0, 2), 4);
        due("LINES", x.count(6), 1);
        none("one TEST too many", decree(x, "if lost=0 and lost=0 and lost=0 and lost=0 and lost=0:share 8;"));
        due("SHARE", x.tell(0, 2), 4);
        due("LINES", x.count(6), 1);
    }

    static void ofAnEmptyTapeHasNoLines() {
        HoldSlips x = new HoldSlips();
        x.citizen(0, false);
        decree(x, "share 4;");
        due("decree", x.decree(), 0);
        due("LINES", x.count(6), 0);
        due("FAULT", x.fault(0), 0);
        due("SHARE by no LINE", x.tell(0, 2), 0);
    }

    static void ofBlanksHasNoLines() {
        sound(" ", 0);
        sound("\n", 0);
        sound(" \n".repeat(200), 0);
    }

    static void takesSixteenLines() {
        sound("none;".repeat(16), 16);
        due("all of them count", share(0, false, "plus 1;".repeat(16)), 16);
    }

    static void takesAFullTape() {
        sound("none;".repeat(15) + " ".repeat(320) + "none;", 16);
        sound(" ".repeat(395) + "none;", 1);
        sound("none;" + " ".repeat(395), 1);
    }

    static void takesFourTestsOfALine() {
        String[] holding = {"widow", "rank=3", "year<1", "not lost>0"};
        String[] failing = {"not widow", "rank<3", "year>0", "lost=1"};
        for (int i = -1; i < 4; i++) {
            String[] tests = holding.clone();
            if (i >= 0) {
                tests[i] = failing[i];
            }
            String line = "if " + String.join(" and ", tests) + ":share 7;";
            due(line, share(3, true, line), i < 0 ? 7 : 0);
            due("16th " + line, share(3, true, "plus 2;".repeat(15) + line), i < 0 ? 7 : 30);
        }
    }

    static void takesNumbersOfOneToThreeDigits() {
        due("0", share(0, false, "share 5;share 0;"), 0);
        due("7", share(0, false, "share 7;"), 7);
        due("42", share(0, false, "share 42;"), 42);
        due("999", share(0, false, "share 999;"), 999);
        due("007", share(0, false, "share 007;"), 7);
        due("000", share(0, false, "plus 000;plus 010;"), 10);
    }

    static void takesTokensAsLongAsTheyGo() {
        sound("share999;plus0;none;", 3);
        sound("if rank<3and year>0and not widow:share 5;", 1);
        sound("\nif\nnot\nrank\n<\n3\n:\nshare\n5\n;\n", 1);
        sound("if  not   widow    :     none      ;       ", 1);
    }

    static void countsTheTapeToItsEndAlone() {
        HoldSlips x = new HoldSlips();
        put(x, "none;none;");
        x.end(5);
        due("decree", x.decree(), 1);
        put(x, "share 12;");
        x.end(6);
        none("decree", x.decree());
    }

    static void isInForceAtOnce() {
        HoldSlips x = ship(1, 10);
        decree(x, "share 6;");
        due("SHARE after the SLIPS", x.tell(0, 2), 6);
        due("SLIPS stay", x.tell(0, 3), 10);
        x.sail();
        decree(x, "share 8;");
        due("SHARE at sea", x.tell(0, 2), 8);
        x.ends(true);
        due("SHARE in the next YEAR", x.tell(0, 2), 8);
    }

    static void shareIsThatAndPlusIsMore() {
        due("none holds", share(0, false, "if widow:share 9;"), 0);
        due("plus from 0", share(0, false, "plus 3;"), 3);
        due("share after plus", share(0, false, "plus 3;share 2;"), 2);
        due("plus after share", share(0, false, "share 2;plus 3;plus 4;"), 9);
        due("the most", share(0, false, "plus 999;".repeat(16)), 15984);
    }

    static void noneIsZeroAndNoFurtherLine() {
        due("none at last", share(0, false, "share 5;none;"), 0);
        due("none first", share(0, false, "share 5;none;share 7;plus 2;"), 0);
        due("none that does not hold", share(0, false, "share 5;if widow:none;plus 2;"), 7);
    }

    static void testsOfARankAreStrict() {
        for (int rank = 0; rank <= 9; rank++) {
            for (int limit = 0; limit <= 10; limit++) {
                due("rank " + rank + " < " + limit, share(rank, false, "if rank<" + limit + ":share 1;"), rank < limit ? 1 : 0);
                due("rank " + rank + " > " + limit, share(rank, false, "if rank>" + limit + ":share 1;"), rank > limit ? 1 : 0);
                due("rank " + rank + " = " + limit, share(rank, false, "if rank=" + limit + ":share 1;"), rank == limit ? 1 : 0);
                due("not " + rank + " < " + limit, share(rank, false, "if not rank<" + limit + ":share 1;"), rank < limit ? 0 : 1);
            }
        }
    }

    static void testsOfAWidow() {
        due("a widow", share(0, true, "if widow:share 1;"), 1);
        due("no widow", share(0, false, "if widow:share 1;"), 0);
        due("not a widow", share(0, true, "if not widow:share 1;"), 0);
        due("not no widow", share(0, false, "if not widow:share 1;"), 1);
    }

    static void testsOfTheYear() {
        HoldSlips x = new HoldSlips();
        x.citizen(0, false);
        decree(x, "if year=0:share 1;if year=1:share 2;if year>1:share 3;");
        due("YEAR 0", x.tell(0, 2), 1);
        x.sail();
        due("YEAR 0 at sea", x.tell(0, 2), 1);
        x.ends(false);
        due("YEAR 1", x.tell(0, 2), 2);
        passYear(x, false);
        due("YEAR 2", x.tell(0, 2), 3);
    }

    static void testsOfTheYearsThatEndedLost() {
        HoldSlips x = new HoldSlips();
        x.citizen(0, false);
        decree(x, "if lost=0:share 1;if lost=1:share 2;if lost>1:share 3;");
        passYear(x, false);
        due("none LOST", x.tell(0, 2), 1);
        passYear(x, true);
        due("one LOST", x.tell(0, 2), 2);
        passYear(x, false);
        due("still one", x.tell(0, 2), 2);
        passYear(x, true);
        due("two LOST", x.tell(0, 2), 3);
    }

    static void testsOfTheSlipsGivenTheLastTime() {
        HoldSlips x = new HoldSlips();
        x.citizen(0, false);
        x.citizen(1, false);
        decree(x, "if rank=0:share 1;");
        x.give(6);
        decree(x, "if slips=0:share 1;if slips=6:share 2;if slips=9:share 3;");
        due("given 6", x.tell(0, 2), 2);
        due("given 0", x.tell(1, 2), 1);
        x.sell(0, 1, 6, 0);
        due("sold ones were given", x.tell(0, 2), 2);
        due("bought ones were not", x.tell(1, 2), 1);
        due("one who came later", x.tell(x.citizen(2, false), 2), 1);
        passYear(x, false);
        due("in the YEAR after that", x.tell(0, 2), 2);
        passYear(x, true);
        due("in a YEAR after one without SLIPS", x.tell(0, 2), 2);
        no("SHARES of 0 give none", giveByNone(x));
        due("which was no time that SLIPS were given", x.tell(0, 2), 2);
        decree(x, "if rank=1:share 1;");
        yes("give", x.give(9));
        decree(x, "if slips=0:share 1;if slips=6:share 2;if slips=9:share 3;");
        due("the last time it was given 0", x.tell(0, 2), 1);
        due("and the other 9", x.tell(1, 2), 3);
    }

    private static boolean giveByNone(HoldSlips x) {
        decree(x, "none;");
        boolean given = x.give(9);
        decree(x, "if slips=0:share 1;if slips=6:share 2;if slips=9:share 3;");
        return given;
    }
}
