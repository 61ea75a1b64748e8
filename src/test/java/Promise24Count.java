public final class Promise24Count extends Checks {
    public static void main(String[] args) {
        runAll(Promise24Count.class);
    }

    private static void counts(HoldSlips x, int... row) {
        for (int what = 0; what < row.length; what++) {
            due("count(" + what + ")", x.count(what), row[what]);
        }
    }

    static void tellsHowManyThereAre() {
        HoldSlips x = ship(3, 90);
        decree(x, "share 1;none;plus 2;none;");
        x.bale(0, 10, 60, 100);
        x.bale(1, 10, 90, 100);
        x.bale(1, 10, 200, 100);
        x.lade(0, 2, 0);
        x.lade(1, 1, 1);
        x.loan(0, 1, 5, 5);
        counts(x, 3, 3, 2, 1, 0, 0, 4, -30, 150, 0);
        x.sail();
        counts(x, 3, 3, 2, 1, 0, 1, 4, -30, 150, 0);
        x.ends(false);
        // 20000 / 120 is 166, of which 16, twice
        counts(x, 3, 0, 0, 0, 1, 0, 4, 0, 0, 32);
    }

    static void isFarForAnotherWhat() {
        HoldSlips x = ship(3, 90);
        for (int what : new int[] {-1, 10, 11, LEAST, MOST}) {
            due("count(" + what + ")", x.count(what), FAR);
        }
    }

    static void tellsAllThatThereMayBe() {
        HoldSlips x = ship(8, 400);
        decree(x, "none;".repeat(16));
        for (int i = 0; i < 12; i++) {
            x.bale(i % 8, 1, 200, 1000);
            x.lade(i, i % 8, 0);
        }
        for (int i = 0; i < 20; i++) {
            x.loan(0, 1, 1, 1);
        }
        counts(x, 8, 12, 12, 20, 0, 0, 16, 2400, 2400, 0);
    }

    static void tiltIsBelowZeroByTheOtherSide() {
        HoldSlips x = ship(1, 400);
        for (int i = 0; i < 12; i++) {
            x.bale(0, 1, 200, 1000);
            x.lade(i, 0, 1);
        }
        due("TILT", x.count(7), -2400);
        due("WEIGHT", x.count(8), 2400);
    }

    static void theChurchsIsOfAllYears() {
        HoldSlips x = ship(1, 10);
        for (int year = 0; year < 3; year++) {
            x.give(10);
            x.bale(0, 10, 1, 100);
            x.lade(0, 0, 0);
            passYear(x, year == 1);
        }
        due("twice 18", x.count(9), 36);
    }
}
