public final class Promise21Tell extends Checks {
    public static void main(String[] args) {
        runAll(Promise21Tell.class);
    }

    static void isFarWithoutSuchACitizen() {
        HoldSlips x = ship(2, 20);
        for (int citizen : new int[] {-1, 2, 7, 8, LEAST, MOST}) {
            for (int what = 0; what <= 7; what++) {
                due("tell(" + citizen + ", " + what + ")", x.tell(citizen, what), FAR);
            }
        }
        HoldSlips y = ship(8, 8);
        due("of eight", y.tell(8, 0), FAR);
        due("of eight", y.tell(7, 0), 7);
    }

    static void isFarForAnotherWhat() {
        HoldSlips x = ship(2, 20);
        for (int what : new int[] {-1, 8, 9, LEAST, MOST}) {
            due("tell(0, " + what + ")", x.tell(0, what), FAR);
        }
    }

    static void rankAndWidow() {
        HoldSlips x = new HoldSlips();
        x.citizen(9, false);
        x.citizen(0, true);
        due("RANK", x.tell(0, 0), 9);
        due("RANK", x.tell(1, 0), 0);
        due("no WIDOW", x.tell(0, 1), 0);
        due("a WIDOW", x.tell(1, 1), 1);
    }

    static void shareIsThatOfNow() {
        HoldSlips x = ship(2, 21);
        due("SHARE", x.tell(0, 2), 1);
        decree(x, "if widow and year=0:share 12;if slips=11:plus 3;if year=1 and lost=1:plus 70;");
        due("SHARE of 0", x.tell(0, 2), 3);
        due("SHARE of 1", x.tell(1, 2), 12);
        passYear(x, true);
        due("SHARE of 0", x.tell(0, 2), 73);
        due("SHARE of 1", x.tell(1, 2), 70);
    }

    static void slipsAndFreeOnes() {
        HoldSlips x = ship(2, 21);
        x.bale(0, 4, 1, 1);
        x.bale(1, 5, 1, 1);
        due("SLIPS of 0", x.tell(0, 3), 11);
        due("FREE of 0", x.tell(0, 4), 11);
        x.lade(0, 1, 0);
        x.lade(1, 1, 1);
        due("FREE of 0", x.tell(0, 4), 11);
        due("SLIPS of 1", x.tell(1, 3), 10);
        due("FREE of 1", x.tell(1, 4), 1);
        x.sail();
        due("SLIPS of 1 at sea", x.tell(1, 3), 10);
        due("FREE of 1 at sea", x.tell(1, 4), 1);
    }

    static void silverMayBeBelowZero() {
        HoldSlips x = ship(2, 20);
        for (int i = 0; i < 10; i++) {
            x.sell(0, 1, 1, 10000);
        }
        due("SILVER of 0", x.tell(0, 5), 100000);
        due("SILVER of 1", x.tell(1, 5), -100000);
    }

    static void returnsAndRentAreOfAllYears() {
        HoldSlips x = new HoldSlips();
        x.citizen(0, false);
        x.citizen(1, false);
        decree(x, "share 1;");
        for (int year = 0; year < 3; year++) {
            x.give(20);
            x.bale(0, 10, 1, 100);
            x.lade(0, 1, 0);
            passYear(x, year == 1);
        }
        // 20000 / 110 is 181; 18 are the CHURCH's, 10 are RENT
        due("RETURNS, whole", x.tell(0, 6), 362);
        due("RENT", x.tell(1, 7), 20);
        due("SILVER of 0", x.tell(0, 5), 2 * (181 - 18 - 10));
        due("SILVER of 1", x.tell(1, 5), 20);
        due("no RENT of 0", x.tell(0, 7), 0);
        due("no RETURNS of 1", x.tell(1, 6), 0);
    }

    static void returnsAndRentComeWithTheShip() {
        HoldSlips x = ship(2, 20);
        x.bale(0, 10, 1, 100);
        x.lade(0, 1, 0);
        x.sail();
        due("RETURNS at sea", x.tell(0, 6), 0);
        due("RENT at sea", x.tell(1, 7), 0);
    }
}
