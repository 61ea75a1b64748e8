public final class Promise22About extends Checks {
    public static void main(String[] args) {
        runAll(Promise22About.class);
    }

    private static HoldSlips withBales() {
        HoldSlips x = ship(3, 90);
        x.bale(2, 39, 41, 999);
        x.bale(1, 5, 6, 7);
        x.press(0, 3);
        return x;
    }

    private static void row(HoldSlips x, int bale, int... row) {
        for (int what = 0; what < row.length; what++) {
            due("about(" + bale + ", " + what + ")", x.about(bale, what), row[what]);
        }
    }

    static void tellsOneThatWaits() {
        row(withBales(), 0, 2, 39, 41, 999, 3, 28, 850, NONE, NONE);
        row(withBales(), 1, 1, 5, 6, 7, 0, 5, 7, NONE, NONE);
    }

    static void tellsOneThatLies() {
        HoldSlips x = withBales();
        yes("lade", x.lade(0, 0, 1));
        row(x, 0, 2, 39, 41, 999, 3, 28, 850, 0, 1);
        row(x, 1, 1, 5, 6, 7, 0, 5, 7, NONE, NONE);
        x.sail();
        row(x, 0, 2, 39, 41, 999, 3, 28, 850, 0, 1);
    }

    static void isNoneWithoutSuchABale() {
        HoldSlips x = withBales();
        for (int bale : new int[] {-1, 2, 11, 12, LEAST, MOST}) {
            for (int what = 0; what <= 8; what++) {
                none("about(" + bale + ", " + what + ")", x.about(bale, what));
            }
        }
        passYear(x, false);
        none("in the next YEAR", x.about(0, 1));
    }

    static void isNoneForAnotherWhat() {
        HoldSlips x = withBales();
        for (int what : new int[] {-1, 9, LEAST, MOST}) {
            none("about(0, " + what + ")", x.about(0, what));
        }
    }
}
