public final class Promise18Board extends Checks {
    public static void main(String[] args) {
        runAll(Promise18Board.class);
    }

    /** Bales 0 to 10 lie, of the values 100 to 110; bale 11 of 111 waits. */
    private static HoldSlips laden() {
        HoldSlips x = ship(1, 400);
        for (int i = 0; i < 12; i++) {
            x.bale(0, 1, 10, 100 + i);
        }
        for (int i = 0; i < 11; i++) {
            x.lade(i, 0, i % 2);
        }
        return x;
    }

    private static void sums(HoldSlips x, int opened, int least, int greatest, int lesser, int greater) {
        due("lesser of " + opened, x.board(opened, least, greatest, 0), lesser);
        due("greater of " + opened, x.board(opened, least, greatest, 1), greater);
    }

    static void knowsTheValueOfThoseItOpens() {
        HoldSlips x = laden();
        sums(x, 1 << 0 | 1 << 10, 3, 7, 210 + 27, 210 + 63);
        sums(x, 1 << 4, 0, 1000, 104, 10104);
        sums(x, 2047, 3, 7, 1155, 1155);
    }

    static void opensNoneByAnEmptySet() {
        sums(laden(), 0, 3, 7, 33, 77);
    }

    static void countsThoseThatWaitForNothing() {
        HoldSlips x = laden();
        sums(x, 1 << 11, 3, 7, 33, 77);
        x.unlade(10);
        sums(x, 1 << 10, 3, 7, 30, 70);
    }

    static void countsBitsBeyondTheBalesForNothing() {
        HoldSlips x = laden();
        sums(x, 1 << 12, 3, 7, 33, 77);
        sums(x, LEAST, 3, 7, 33, 77);
        sums(x, -4096, 3, 7, 33, 77);
        sums(x, -1, 3, 7, 1155, 1155);
    }

    static void countsThePressedValue() {
        HoldSlips x = ship(1, 400);
        x.bale(0, 10, 10, 100);
        x.press(0, 3);
        x.lade(0, 0, 0);
        sums(x, 1, 0, 0, 85, 85);
    }

    static void takesItsWordWhetherItIsSoOrNot() {
        HoldSlips x = laden();
        sums(x, 0, 0, 0, 0, 0);
        sums(x, 0, 1000, 1000, 11000, 11000);
        sums(x, 1, 999, 1000, 10090, 10100);
    }

    static void isZeroWhenNothingLies() {
        HoldSlips x = new HoldSlips();
        sums(x, -1, 5, 6, 0, 0);
        due("not BEYOND", x.board(-1, 5, 6, 2), 0);
    }

    static void isBeyondWhenTheLesserSumIsAboveThePermit() {
        HoldSlips x = laden();
        x.rule(2, 1154);
        due("1155 of 1154", x.board(-1, 0, 0, 2), 1);
        x.rule(2, 1155);
        due("1155 of 1155", x.board(-1, 0, 0, 2), 0);
        due("the greater one does not count", x.board(0, 0, 1000, 2), 0);
        x.rule(2, 32);
        due("33 of 32", x.board(0, 3, 7, 2), 1);
        x.rule(2, 33);
        due("33 of 33", x.board(0, 3, 7, 2), 0);
    }

    static void isNoneForALeastBelowZero() {
        HoldSlips x = laden();
        for (int what = 0; what <= 2; what++) {
            none("-1", x.board(-1, -1, 5, what));
            none("the least int", x.board(-1, LEAST, 5, what));
            none("both", x.board(-1, -2, -1, what));
        }
        due("0", x.board(0, 0, 5, 0), 0);
    }

    static void isNoneForALeastAboveTheGreatest() {
        HoldSlips x = laden();
        for (int what = 0; what <= 2; what++) {
            none("6, 5", x.board(-1, 6, 5, what));
            none("the most int", x.board(-1, MOST, 5, what));
            none("0, -1", x.board(-1, 0, -1, what));
        }
        due("5, 5", x.board(0, 5, 5, 0), 55);
    }

    static void isNoneForAGreatestAbove1000() {
        HoldSlips x = laden();
        for (int what = 0; what <= 2; what++) {
            none("1001", x.board(-1, 0, 1001, what));
            none("both", x.board(-1, 1001, 1001, what));
            none("the most int", x.board(-1, 0, MOST, what));
        }
        due("1000", x.board(0, 0, 1000, 1), 11000);
    }

    static void isNoneForAnotherWhat() {
        HoldSlips x = laden();
        for (int what : new int[] {-1, 3, LEAST, MOST}) {
            none("what " + what, x.board(-1, 0, 0, what));
        }
    }

    static void opensThemAtSeaToo() {
        HoldSlips x = laden();
        yes("sail", x.sail());
        sums(x, 1, 0, 1, 100, 110);
        x.ends(true);
        sums(x, 1, 1, 1, 0, 0);
    }

    static void changesNothing() {
        HoldSlips x = laden();
        String before = picture(x);
        x.board(5, 3, 7, 0);
        x.board(5, 3, 7, 2);
        x.board(5, 7, 3, 1);
        unchanged(x, before);
    }
}
