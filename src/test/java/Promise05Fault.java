public final class Promise05Fault extends Checks {
    private static final String FOUR = "if widow and widow and widow and widow";
    private static final String SIXTEEN = "none;".repeat(16);

    /** Where a text may stand, and the tokens with which it goes on from there. */
    private static final String[][] PLACES = {
        {"", "if share plus none"},
        {"none;", "if share plus none"},
        {"if ", "not widow rank year slips lost"},
        {"if widow and ", "not widow rank year slips lost"},
        {"if not ", "widow rank year slips lost"},
        {"if rank ", "< > ="},
        {"if not lost ", "< > ="},
        {"if year< ", "7"},
        {"if slips> ", "7"},
        {"if widow ", "and :"},
        {"if lost=0 ", "and :"},
        {"if widow: ", "share plus none"},
        {"share ", "7"},
        {"if widow:plus ", "7"},
        {"none ", ";"},
        {"if widow:none ", ";"},
        {"plus 7 ", ";"},
    };
    private static final String[] TOKENS = {
        "if", "and", "not", "widow", "rank", "year", "slips", "lost", "share", "plus", "none", "7",
        ":", ";", "<", ">", "=", "x", "nones", "shar", "1234",
    };

    public static void main(String[] args) {
        runAll(Promise05Fault.class);
    }

    private static void faulty(String text, int kind, int place) {
        HoldSlips x = new HoldSlips();
        none("decree '" + text + "'", decree(x, text));
        due("FAULT of '" + text + "'", x.fault(0), kind);
        due("its place in '" + text + "'", x.fault(1), place);
    }

    private static void sound(String text) {
        HoldSlips x = new HoldSlips();
        decree(x, text);
        due("FAULT of '" + text + "'", x.fault(0), 0);
        none("its place in '" + text + "'", x.fault(1));
    }

    private static boolean goesOn(String tokens, String token) {
        return (" " + tokens + " ").contains(" " + token + " ");
    }

    static void isNoneBeforeAnyDecree() {
        HoldSlips x = new HoldSlips();
        due("FAULT", x.fault(0), 0);
        none("its place", x.fault(1));
    }

    static void isNoneOfASoundDecree() {
        sound("");
        sound("none;");
        sound(SIXTEEN);
        sound(FOUR + ":none;");
    }

    static void isOfTheLatestDecreeAlone() {
        HoldSlips x = new HoldSlips();
        decree(x, "none;!");
        due("place", x.fault(1), 5);
        decree(x, "none;".repeat(17));
        due("FAULT", x.fault(0), 3);
        due("place", x.fault(1), 80);
        decree(x, "?");
        due("FAULT", x.fault(0), 1);
        due("place", x.fault(1), 0);
        decree(x, "none;");
        due("FAULT", x.fault(0), 0);
        none("place", x.fault(1));
        decree(x, "none");
        put(x, "none;");
        due("a tape that is not taken yet", x.fault(1), 4);
    }

    static void isNoneForAnotherWhat() {
        HoldSlips x = new HoldSlips();
        for (int what : new int[] {-1, 2, 3, LEAST, MOST}) {
            none("fault(" + what + ") without", x.fault(what));
        }
        decree(x, "none");
        for (int what : new int[] {-1, 2, 3, LEAST, MOST}) {
            none("fault(" + what + ") with", x.fault(what));
        }
    }

    static void oneIsAtTheFirstTokenWithWhichNoTextGoesOn() {
        for (String[] place : PLACES) {
            for (String token : TOKENS) {
                if (!goesOn(place[1], token)) {
                    faulty(place[0] + token + " ;", 1, place[0].length());
                }
            }
        }
    }

    static void oneIsNotWhereATextGoesOn() {
        for (String[] place : PLACES) {
            for (String token : place[1].split(" ")) {
                HoldSlips x = new HoldSlips();
                decree(x, place[0] + token + " !");
                due("place in '" + place[0] + token + " !'", x.fault(1), place[0].length() + token.length() + 1);
            }
        }
    }

    static void oneIsAtTheEndToo() {
        for (String[] place : PLACES) {
            if (!place[1].startsWith("if")) {
                String text = place[0].trim();
                faulty(text, 1, text.length());
            }
        }
        faulty("none;".repeat(15) + " ".repeat(321) + "none", 1, 400);
    }

    static void oneAtTheEndIsBehindTheBlanks() {
        faulty("share  ", 1, 7);
        faulty("none\n", 1, 5);
        faulty("none" + " ".repeat(396), 1, 400);
    }

    static void oneIsAtAByteThatIsNoToken() {
        for (int b = 0; b < 256; b++) {
            boolean blank = b == 10 || b == 32;
            if (!blank) {
                faulty("none;" + (char) b, 1, 5);
                faulty("none;" + (char) b + "none;", 1, 5);
            }
        }
        faulty("none;none!", 1, 9);
        faulty("share 5.", 1, 7);
        faulty("nonE;", 1, 0);
        faulty("none\t;", 1, 4);
    }

    static void oneIsAtALongerRowOfDigits() {
        faulty("share 1000;", 1, 6);
        faulty("share 0001;", 1, 6);
        faulty("if rank<1234:none;", 1, 8);
        faulty("share " + "9".repeat(394), 1, 6);
        faulty("share 4294967297;", 1, 6);
        faulty("1234", 1, 0);
        faulty("share 12 34;", 1, 9);
    }

    static void oneIsAtAWordOrNumberToItsEnd() {
        faulty("nonenone;", 1, 0);
        faulty("ifwidow:none;", 1, 0);
        faulty("if widows:none;", 1, 3);
        faulty("if widow andnot widow:none;", 1, 9);
        faulty("shar e 5;", 1, 0);
        faulty("share 5none;", 1, 7);
        faulty("i", 1, 0);
        faulty("s", 1, 0);
    }

    static void oneIsSoughtOnTheTapeAlone() {
        String[] texts = {"none;", "share 7;", "share 12;", "if widow:none;", "if rank<12:none;"};
        for (String text : texts) {
            for (int end = 1; end < text.length(); end++) {
                HoldSlips whole = new HoldSlips();
                put(whole, text);
                whole.end(end);
                none("'" + text + "' to " + end, whole.decree());
                HoldSlips part = new HoldSlips();
                decree(part, text.substring(0, end));
                due("place in '" + text + "' to " + end, whole.fault(1), part.fault(1));
            }
        }
    }

    static void threeIsAtASeventeenthLine() {
        faulty(SIXTEEN + "none;", 3, 80);
        faulty(SIXTEEN + "  share 5;", 3, 82);
        faulty(SIXTEEN + "\nif widow:none;", 3, 81);
        faulty("none;".repeat(80), 3, 80);
        sound(SIXTEEN + "  \n");
    }

    static void threeIsAtAFifthTest() {
        faulty(FOUR + " and widow:none;", 3, 43);
        faulty(FOUR + " and not widow:none;", 3, 43);
        faulty(FOUR + " and  rank<3:none;", 3, 44);
        faulty(FOUR + " and widow and widow and widow:none;", 3, 43);
        faulty("none;" + FOUR + ":none;" + FOUR + " and lost=1:none;", 3, 92);
        sound(FOUR + ":none;" + FOUR + ":none;");
    }

    static void threeIsAtTheFirstOfSeveral() {
        faulty(FOUR + " and widow:none;" + SIXTEEN, 3, 43);
        faulty(FOUR + " and widow:none;" + FOUR + " and widow:none;", 3, 43);
        faulty(SIXTEEN + FOUR + " and widow:none;", 3, 80);
        faulty(SIXTEEN + "none;" + FOUR + " and widow:none;", 3, 80);
        faulty("none;".repeat(15) + FOUR + " and widow:none;none;", 3, 75 + 43);
    }

    static void oneGoesBeforeThree() {
        faulty(SIXTEEN + "none", 1, 84);
        faulty(SIXTEEN + "if", 1, 82);
        faulty(SIXTEEN + "x", 1, 80);
        faulty(SIXTEEN + "none;!", 1, 85);
        faulty(FOUR + " and", 1, 42);
        faulty(FOUR + " and widow", 1, 48);
        faulty(FOUR + " and:none;", 1, 42);
        faulty(FOUR + " and widow:none;share", 1, 59);
    }
}
