public final class Promise23Book extends Checks {
    public static void main(String[] args) {
        runAll(Promise23Book.class);
    }

    private static void row(HoldSlips x, int year, int... row) {
        for (int what = 0; what < row.length; what++) {
            due("book(" + year + ", " + what + ")", x.book(year, what), row[what]);
        }
    }

    /** Two bales lie, the one of citizen 0 on slips of citizen 1; one waits. */
    private static void lade(HoldSlips x) {
        x.bale(0, 10, 30, 100);
        x.bale(1, 5, 20, 50);
        x.bale(0, 1, 200, 1000);
        yes("lade", x.lade(0, 1, 0));
        yes("lade", x.lade(1, 1, 1));
    }

    static void tellsAYearThatCame() {
        HoldSlips x = ship(2, 41);
        lade(x);
        passYear(x, false);
        // 20000 / 115 is 173: 173 and 86, of which 17 and 8
        row(x, 0, 41, 2, 150, 50, 173, 259, 25, 10, 0);
    }

    static void tellsAYearThatEndedLost() {
        HoldSlips x = ship(2, 41);
        lade(x);
        passYear(x, true);
        row(x, 0, 41, 2, 150, 50, 0, 0, 0, 0, 1);
    }

    static void tellsAYearOfNothing() {
        HoldSlips x = new HoldSlips();
        passYear(x, false);
        passYear(x, true);
        row(x, 0, 0, 0, 0, 0, 200, 0, 0, 0, 0);
        row(x, 1, 0, 0, 0, 0, 0, 0, 0, 0, 1);
    }

    static void tellsEachYearByItself() {
        HoldSlips x = ship(2, 41);
        lade(x);
        passYear(x, false);
        passYear(x, true);
        x.give(31);
        lade(x);
        x.unlade(1);
        passYear(x, false);
        row(x, 0, 41, 2, 150, 50, 173, 259, 25, 10, 0);
        row(x, 1, 0, 0, 0, 0, 0, 0, 0, 0, 1);
        row(x, 2, 31, 1, 100, 30, 181, 181, 18, 10, 0);
    }

    static void valueIsThePressedOne() {
        HoldSlips x = ship(1, 40);
        x.bale(0, 10, 30, 100);
        x.press(0, 3);
        x.lade(0, 0, 0);
        passYear(x, true);
        row(x, 0, 40, 1, 85, 30);
    }

    static void isNoneIfTheYearDidNotEnd() {
        HoldSlips x = ship(1, 40);
        for (int what = 0; what <= 8; what++) {
            none("YEAR 0, OPEN", x.book(0, what));
        }
        x.sail();
        none("YEAR 0, at sea", x.book(0, 0));
        x.ends(false);
        due("YEAR 0", x.book(0, 0), 40);
        for (int year : new int[] {-1, 1, 2, 199, 200, LEAST, MOST}) {
            for (int what = 0; what <= 8; what++) {
                none("book(" + year + ", " + what + ")", x.book(year, what));
            }
        }
    }

    static void isNoneForAnotherWhat() {
        HoldSlips x = ship(1, 40);
        passYear(x, false);
        passYear(x, false);
        for (int what : new int[] {-1, 9, LEAST, MOST}) {
            none("book(0, " + what + ")", x.book(0, what));
            none("book(1, " + what + ")", x.book(1, what));
        }
    }

    static void tellsTheYearBeforeTheLast() {
        HoldSlips x = new HoldSlips();
        for (int year = 0; year < 199; year++) {
            x.sail();
            x.ends(year == 198);
        }
        due("book(198, 8)", x.book(198, 8), 1);
        due("book(198, 4)", x.book(198, 4), 0);
        due("book(197, 4)", x.book(197, 4), 200);
        due("book(0, 4)", x.book(0, 4), 200);
        none("book(199, 8)", x.book(199, 8));
    }
}
