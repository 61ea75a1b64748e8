public final class Promise20Ends extends Checks {
    public static void main(String[] args) {
        runAll(Promise20Ends.class);
    }

    /** Three citizens with 30 slips each; 0's bale and 1's bale lie on 1's slips, 2's bale waits. */
    private static HoldSlips laden() {
        HoldSlips x = ship(3, 90);
        x.bale(0, 20, 60, 333);
        x.bale(1, 10, 50, 77);
        x.bale(2, 30, 200, 1000);
        x.press(1, 2);
        yes("lade", x.lade(0, 1, 0));
        yes("lade", x.lade(1, 1, 1));
        return x;
    }

    /** A year of one bale on slips of its owner, or of another one. */
    private static HoldSlips came(int size, int worth, int holder, int rent) {
        HoldSlips x = ship(2, 400);
        x.rule(3, rent);
        x.bale(0, size, 1, worth);
        yes("lade", x.lade(0, holder, 0));
        passYear(x, false);
        return x;
    }

    static void isNoneWhenTheShipHasNotSailed() {
        HoldSlips x = laden();
        x.loan(0, 1, 5, 5);
        String before = picture(x);
        none("ends", x.ends(false));
        none("ends", x.ends(true));
        unchanged(x, before);
        passYear(x, false);
        none("twice", x.ends(false));
    }

    static void isNoneInYear199() {
        HoldSlips x = new HoldSlips();
        for (int year = 0; year < 199; year++) {
            x.sail();
            due("ends", x.ends(year % 2 == 0), year + 1);
        }
        yes("sail in 199", x.sail());
        String before = picture(x);
        none("ends", x.ends(false));
        none("ends", x.ends(true));
        unchanged(x, before);
        due("YEAR", x.count(4), 199);
        due("at sea", x.count(5), 1);
        none("no book of it", x.book(199, 8));
        due("the book of 198", x.book(198, 8), 1);
        due("the book of 197", x.book(197, 4), 200);
    }

    static void isNoneInYear199WhenOpen() {
        HoldSlips x = new HoldSlips();
        for (int year = 0; year < 199; year++) {
            x.sail();
            x.ends(true);
        }
        due("YEAR", x.count(4), 199);
        none("ends", x.ends(false));
        due("OPEN", x.count(5), 0);
        due("a citizen", x.citizen(1, false), 0);
        decree(x, "share 1;");
        yes("SLIPS", x.give(10));
    }

    static void priceFallsByTheRoomThatCame() {
        HoldSlips x = new HoldSlips();
        passYear(x, false);
        due("nothing came", x.book(0, 4), 200);
        // 20000 / 101 is 198.01, 20000 / 140 is 142.8
        due("1 came", came(1, 1, 0, 1).book(0, 4), 198);
        due("40 came", came(40, 1, 0, 1).book(0, 4), 142);
        HoldSlips y = ship(1, 400);
        for (int i = 0; i < 10; i++) {
            y.bale(0, 40, 10, 10);
            yes("lade", y.lade(i, 0, i % 2));
        }
        passYear(y, false);
        due("400 came", y.book(0, 4), 40);
    }

    static void priceCountsThePressedRoomOfThoseThatLie() {
        HoldSlips x = laden();
        passYear(x, false);
        // ROOM 20 and 8: 20000 / 128 is 156.25
        due("PRICE", x.book(0, 4), 156);
    }

    static void returnIsCut() {
        // 20000 / 113 is 176, 1 * 176 / 100 is 1
        due("of 1", came(13, 1, 0, 1).tell(0, 6), 1);
        due("of 3", came(13, 3, 0, 1).tell(0, 6), 5);
        due("of 1000", came(13, 1000, 0, 1).tell(0, 6), 1760);
    }

    static void tenthIsCut() {
        // PRICE by SIZE 1 is 198: VALUE 5 returns 9, VALUE 6 returns 11
        HoldSlips x = came(1, 5, 0, 1);
        due("RETURN 9", x.tell(0, 6), 9);
        due("CHURCH 0", x.count(9), 0);
        due("SILVER 9", x.tell(0, 5), 9);
        HoldSlips y = came(1, 6, 0, 1);
        due("RETURN 11", y.tell(0, 6), 11);
        due("CHURCH 1", y.count(9), 1);
        due("SILVER 10", y.tell(0, 5), 10);
    }

    static void tenthIsOfEachBale() {
        HoldSlips x = ship(1, 400);
        for (int i = 0; i < 4; i++) {
            x.bale(0, 1, 1, 5);
            x.lade(i, 0, i % 2);
        }
        passYear(x, false);
        // 20000 / 104 is 192, 5 * 192 / 100 is 9 for each
        due("RETURNS", x.book(0, 5), 36);
        due("CHURCH", x.book(0, 6), 0);
        due("SILVER", x.tell(0, 5), 36);
    }

    static void ownersPayNoRentToThemselves() {
        HoldSlips x = came(40, 1000, 0, 9);
        due("RENT", x.book(0, 7), 0);
        due("RENT that it got", x.tell(0, 7), 0);
        due("SILVER", x.tell(0, 5), 1420 - 142);
    }

    static void rentIsForEachSlip() {
        HoldSlips x = came(40, 1000, 1, 9);
        due("RENT", x.tell(1, 7), 360);
        due("SILVER of the HOLDER", x.tell(1, 5), 360);
        due("SILVER of the OWNER", x.tell(0, 5), 1420 - 142 - 360);
        due("RETURNS, whole", x.tell(0, 6), 1420);
        due("the HOLDER has no RETURN", x.tell(1, 6), 0);
        due("the OWNER has no RENT", x.tell(0, 7), 0);
    }

    static void rentIsForThePressedRoom() {
        HoldSlips x = ship(2, 400);
        x.bale(0, 40, 1, 1000);
        x.press(0, 3);
        x.lade(0, 1, 0);
        passYear(x, false);
        due("RENT", x.tell(1, 7), 28);
    }

    static void rentMayBeZero() {
        HoldSlips x = came(40, 1000, 1, 0);
        due("RENT", x.tell(1, 7), 0);
        due("SILVER of the OWNER", x.tell(0, 5), 1278);
    }

    static void rentIsAtMostWhatIsLeft() {
        // PRICE 142: VALUE 11 returns 15, less 1; VALUE 1 returns 1
        HoldSlips x = came(40, 11, 1, 9);
        due("RENT", x.tell(1, 7), 14);
        due("SILVER of the HOLDER", x.tell(1, 5), 14);
        due("SILVER of the OWNER", x.tell(0, 5), 0);
        due("RETURNS", x.tell(0, 6), 15);
        due("CHURCH", x.count(9), 1);
        due("RENT 1", came(40, 1, 1, 1).tell(1, 7), 1);
        // VALUE 31 returns 44, less 4 is 40; VALUE 30 returns 42, less 4 is 38
        due("RENT 40 of 40", came(40, 31, 1, 1).tell(1, 7), 40);
        due("RENT 38 of 38", came(40, 30, 1, 1).tell(1, 7), 38);
    }

    static void allIsToldInTheBook() {
        HoldSlips x = laden();
        passYear(x, false);
        // 333 * 156 / 100 is 519, 77 - 7 is 70, 70 * 156 / 100 is 109
        int[] row = {90, 2, 403, 110, 156, 628, 61, 20, 0};
        for (int what = 0; what <= 8; what++) {
            due("book(0, " + what + ")", x.book(0, what), row[what]);
        }
        due("SILVER of 0", x.tell(0, 5), 519 - 51 - 20);
        due("SILVER of 1", x.tell(1, 5), 109 - 10 + 20);
        due("SILVER of 2, whose BALE waited", x.tell(2, 5), 0);
    }

    static void lostBringsNothing() {
        HoldSlips x = laden();
        x.loan(2, 0, 100, 50);
        passYear(x, true);
        int[] row = {90, 2, 403, 110, 0, 0, 0, 0, 1};
        for (int what = 0; what <= 8; what++) {
            due("book(0, " + what + ")", x.book(0, what), row[what]);
        }
        due("SILVER of the borrower", x.tell(0, 5), 100);
        due("SILVER of the HOLDER", x.tell(1, 5), 0);
        due("SILVER of the lender", x.tell(2, 5), -100);
        due("RETURNS", x.tell(0, 6), 0);
        due("RENT", x.tell(1, 7), 0);
        due("CHURCH", x.count(9), 0);
        passYear(x, false);
        due("the LOAN is gone for good", x.tell(2, 5), -100);
    }

    static void loansComeBackWithTheirPercentCut() {
        HoldSlips x = ship(3, 10);
        x.loan(0, 1, 33, 10);
        x.loan(2, 1, 99, 1);
        x.loan(1, 2, 100, 1);
        passYear(x, false);
        // 33 and 3 come, 99 and 0 come, 101 go
        due("SILVER of 0", x.tell(0, 5), 3);
        due("SILVER of 1, below 0", x.tell(1, 5), -3 + 1);
        due("SILVER of 2", x.tell(2, 5), -1);
        passYear(x, false);
        due("once", x.tell(0, 5), 3);
    }

    static void theGreatestLoanComesBack() {
        HoldSlips x = ship(2, 10);
        for (int i = 0; i < 20; i++) {
            x.loan(0, 1, 10000, 100);
        }
        passYear(x, false);
        due("SILVER of the lender", x.tell(0, 5), 200000);
        due("SILVER of the borrower", x.tell(1, 5), -200000);
    }

    static void theNextYearIsOpenWithoutSlipsBalesLoans() {
        for (boolean lost : new boolean[] {false, true}) {
            HoldSlips x = laden();
            x.loan(0, 1, 5, 5);
            x.best();
            passYear(x, lost);
            due("OPEN", x.count(5), 0);
            due("BALES, those that waited, too", x.count(1), 0);
            due("that lie", x.count(2), 0);
            due("LOANS", x.count(3), 0);
            due("TILT", x.count(7), 0);
            due("WEIGHT", x.count(8), 0);
            for (int i = 0; i < 3; i++) {
                due("SLIPS", x.tell(i, 3), 0);
                due("FREE", x.tell(i, 4), 0);
            }
            none("BEST", x.ladeBest());
            yes("SLIPS are given", x.give(3));
            due("one each", x.tell(1, 4), 1);
            due("a BALE", x.bale(0, 1, 1, 1), 0);
            none("it waits", x.about(0, 7));
            due("a LOAN", x.loan(0, 1, 1, 1), 0);
        }
    }

    static void theNextYearHasCitizensAndDecree() {
        HoldSlips x = laden();
        passYear(x, true);
        due("CITIZENS", x.count(0), 3);
        due("LINES", x.count(6), 1);
        due("RANK", x.tell(2, 0), 2);
        due("SHARE", x.tell(2, 2), 1);
    }
}
