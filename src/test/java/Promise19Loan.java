public final class Promise19Loan extends Checks {
    public static void main(String[] args) {
        runAll(Promise19Loan.class);
    }

    static void bringsSilverAtOnce() {
        HoldSlips x = ship(2, 10);
        due("loan", x.loan(0, 1, 300, 10), 0);
        due("SILVER of the lender, below 0", x.tell(0, 5), -300);
        due("SILVER of the borrower", x.tell(1, 5), 300);
        due("LOANS", x.count(3), 1);
        due("the other way", x.loan(1, 0, 50, 0), 1);
        due("SILVER of 0", x.tell(0, 5), -250);
    }

    static void isNoneWhenThereAreTwenty() {
        HoldSlips x = ship(2, 10);
        for (int i = 0; i < 20; i++) {
            due("loan", x.loan(0, 1, 1, 0), i);
        }
        String before = picture(x);
        none("a 21st", x.loan(0, 1, 1, 0));
        unchanged(x, before);
        due("SILVER", x.tell(0, 5), -20);
        passYear(x, false);
        due("the next YEAR's first", x.loan(0, 1, 1, 0), 0);
    }

    static void isNoneWhenThereAreNoSuchTwo() {
        HoldSlips x = ship(2, 10);
        String before = picture(x);
        for (int other : new int[] {-1, 2, 8, LEAST, MOST}) {
            none("lender " + other, x.loan(other, 0, 1, 1));
            none("borrower " + other, x.loan(0, other, 1, 1));
        }
        unchanged(x, before);
    }

    static void isNoneWhenTheyAreOne() {
        HoldSlips x = ship(2, 10);
        String before = picture(x);
        none("0 and 0", x.loan(0, 0, 1, 1));
        none("1 and 1", x.loan(1, 1, 1, 1));
        unchanged(x, before);
    }

    static void takesSumsOfOneToTenThousand() {
        HoldSlips x = ship(2, 10);
        due("1", x.loan(0, 1, 1, 0), 0);
        due("10000", x.loan(0, 1, 10000, 0), 1);
        due("SILVER", x.tell(1, 5), 10001);
    }

    static void isNoneForAnotherSum() {
        HoldSlips x = ship(2, 10);
        String before = picture(x);
        for (int sum : new int[] {0, -1, 10001, LEAST, MOST}) {
            none("sum " + sum, x.loan(0, 1, sum, 5));
        }
        unchanged(x, before);
    }

    static void takesZeroToAHundredPercent() {
        HoldSlips x = ship(2, 10);
        due("0", x.loan(0, 1, 10, 0), 0);
        due("100", x.loan(0, 1, 10, 100), 1);
        passYear(x, false);
        due("10 and 20 came back for 20", x.tell(0, 5), 10);
    }

    static void isNoneForOtherPercent() {
        HoldSlips x = ship(2, 10);
        String before = picture(x);
        for (int percent : new int[] {-1, 101, LEAST, MOST}) {
            none("percent " + percent, x.loan(0, 1, 10, percent));
        }
        unchanged(x, before);
    }

    static void isNoneWhenTheShipSailed() {
        HoldSlips x = ship(2, 10);
        x.sail();
        String before = picture(x);
        none("loan at sea", x.loan(0, 1, 10, 5));
        unchanged(x, before);
        x.ends(true);
        due("in the next YEAR", x.loan(0, 1, 10, 5), 0);
    }
}
