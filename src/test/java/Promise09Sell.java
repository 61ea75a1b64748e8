public final class Promise09Sell extends Checks {
    public static void main(String[] args) {
        runAll(Promise09Sell.class);
    }

    static void bringsSlipsAndSilver() {
        HoldSlips x = ship(2, 20);
        yes("sell", x.sell(0, 1, 3, 70));
        due("SLIPS of 0", x.tell(0, 3), 7);
        due("SLIPS of 1", x.tell(1, 3), 13);
        due("FREE of 0", x.tell(0, 4), 7);
        due("FREE of 1", x.tell(1, 4), 13);
        due("SILVER of 0", x.tell(0, 5), 70);
        due("SILVER of 1", x.tell(1, 5), -70);
        yes("sell back", x.sell(1, 0, 13, 0));
        due("SLIPS of 0", x.tell(0, 3), 20);
        due("SLIPS of 1", x.tell(1, 3), 0);
    }

    static void takesASumOfZeroToTenThousand() {
        HoldSlips x = ship(2, 20);
        yes("sum 0", x.sell(0, 1, 1, 0));
        due("SILVER", x.tell(0, 5), 0);
        yes("sum 10000", x.sell(0, 1, 1, 10000));
        due("SILVER", x.tell(0, 5), 10000);
        due("SILVER below 0", x.tell(1, 5), -10000);
    }

    static void isFalseForAnotherSum() {
        HoldSlips x = ship(2, 20);
        String before = picture(x);
        for (int sum : new int[] {-1, 10001, LEAST, MOST}) {
            no("sum " + sum, x.sell(0, 1, 1, sum));
        }
        unchanged(x, before);
    }

    static void takesOneAndAllThatAreFree() {
        HoldSlips x = ship(2, 20);
        yes("n 1", x.sell(0, 1, 1, 0));
        yes("n 9, the rest", x.sell(0, 1, 9, 0));
        due("SLIPS of 0", x.tell(0, 3), 0);
        yes("n 20", x.sell(1, 0, 20, 0));
    }

    static void isFalseForAnotherNumberOfSlips() {
        HoldSlips x = ship(2, 20);
        String before = picture(x);
        for (int n : new int[] {0, -1, 11, 20, LEAST, MOST}) {
            no("n " + n, x.sell(0, 1, n, 5));
        }
        unchanged(x, before);
        x.sell(0, 1, 10, 0);
        no("none is left", x.sell(0, 1, 1, 5));
        no("not even 0", x.sell(0, 1, 0, 5));
    }

    static void isFalseForSlipsThatABaleLiesOn() {
        HoldSlips x = ship(2, 20);
        x.bale(1, 6, 1, 1);
        yes("lade", x.lade(0, 0, 0));
        String before = picture(x);
        no("n 5 of 4", x.sell(0, 1, 5, 0));
        no("n 10", x.sell(0, 1, 10, 0));
        unchanged(x, before);
        yes("n 4", x.sell(0, 1, 4, 0));
        due("those it lies on stay", x.tell(0, 3), 6);
        due("none FREE", x.tell(0, 4), 0);
        no("n 1 of 0", x.sell(0, 1, 1, 0));
        x.unlade(0);
        yes("n 6 as it waits again", x.sell(0, 1, 6, 0));
    }

    static void isFalseWhenThereAreNoSuchTwo() {
        HoldSlips x = ship(2, 20);
        String before = picture(x);
        for (int other : new int[] {-1, 2, 8, LEAST, MOST}) {
            no("from " + other, x.sell(other, 0, 1, 1));
            no("to " + other, x.sell(0, other, 1, 1));
        }
        unchanged(x, before);
    }

    static void isFalseWhenTheyAreOne() {
        HoldSlips x = ship(2, 20);
        String before = picture(x);
        no("0 to 0", x.sell(0, 0, 1, 1));
        no("1 to 1", x.sell(1, 1, 1, 0));
        unchanged(x, before);
    }

    static void isFalseWhenTheShipSailed() {
        HoldSlips x = ship(2, 20);
        x.sail();
        String before = picture(x);
        no("sell at sea", x.sell(0, 1, 1, 1));
        unchanged(x, before);
        x.ends(false);
        no("SLIPS are gone with the YEAR", x.sell(0, 1, 1, 1));
    }

    static void isFalseBeforeSlipsAreGiven() {
        HoldSlips x = new HoldSlips();
        x.citizen(0, false);
        x.citizen(0, false);
        no("sell", x.sell(0, 1, 1, 1));
    }

    static void letsOneBuyWhoWasGivenNone() {
        HoldSlips x = ship(1, 20);
        x.citizen(0, false);
        yes("sell", x.sell(0, 1, 20, 5));
        due("SLIPS", x.tell(1, 3), 20);
        x.bale(0, 20, 1, 1);
        yes("lade on them", x.lade(0, 1, 0));
    }
}
