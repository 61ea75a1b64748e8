public final class Promise26Again extends Checks {
    public static void main(String[] args) {
        runAll(Promise26Again.class);
    }

    static void isFalseWithoutSuchAnImage() {
        HoldSlips x = ship(2, 20);
        String before = picture(x);
        for (int k = 0; k <= 2; k++) {
            no("again(" + k + ")", x.again(k));
        }
        unchanged(x, before);
        x.image(1);
        x.citizen(9, true);
        String after = picture(x);
        no("again(0)", x.again(0));
        no("again(2)", x.again(2));
        unchanged(x, after);
        yes("again(1)", x.again(1));
        same("the picture of 1", picture(x), before);
    }

    static void isFalseForAnotherK() {
        HoldSlips x = ship(2, 20);
        for (int k = 0; k <= 2; k++) {
            x.image(k);
        }
        x.citizen(9, true);
        String before = picture(x);
        for (int k : new int[] {-1, 3, LEAST, MOST}) {
            no("again(" + k + ")", x.again(k));
        }
        unchanged(x, before);
    }

    static void leavesTheOtherImages() {
        HoldSlips x = new HoldSlips();
        for (int k = 0; k <= 2; k++) {
            x.citizen(k, false);
            x.image(k);
        }
        for (int k : new int[] {0, 1, 2, 1, 0, 2}) {
            yes("again(" + k + ")", x.again(k));
            due("CITIZENS of " + k, x.count(0), k + 1);
        }
    }

    static void leavesItsOwnImage() {
        HoldSlips x = ship(2, 20);
        x.image(0);
        for (int i = 0; i < 3; i++) {
            x.citizen(9, true);
            x.sell(0, 1, 5, 5);
            x.bale(0, 1, 1, 1);
            passYear(x, i == 1);
            yes("again", x.again(0));
            due("CITIZENS", x.count(0), 2);
            due("SLIPS", x.tell(0, 3), 10);
            due("BALES", x.count(1), 0);
            due("YEAR", x.count(4), 0);
            none("no book", x.book(0, 0));
        }
    }

    static void goesFromYearToYear() {
        HoldSlips x = ship(1, 20);
        x.bale(0, 10, 1, 100);
        x.lade(0, 0, 0);
        x.sail();
        x.image(0);
        x.ends(false);
        x.image(1);
        x.again(0);
        due("at sea", x.count(5), 1);
        due("the BALE lies", x.about(0, 7), 0);
        no("SLIPS were given", x.give(1));
        due("LOST this time", x.ends(true), 1);
        due("the book", x.book(0, 8), 1);
        due("SILVER", x.tell(0, 5), 0);
        x.again(1);
        due("it came", x.book(0, 8), 0);
        due("PRICE", x.book(0, 4), 181);
        due("SILVER", x.tell(0, 5), 163);
        due("CHURCH", x.count(9), 18);
        yes("SLIPS were not given", x.give(1));
    }

    static void takesTheYearsOfTheBookBack() {
        HoldSlips x = ship(1, 20);
        x.bale(0, 10, 1, 100);
        x.lade(0, 0, 0);
        x.image(0);
        passYear(x, false);
        x.again(0);
        x.unlade(0);
        passYear(x, false);
        int[] row = {20, 0, 0, 0, 200, 0, 0, 0, 0};
        for (int what = 0; what <= 8; what++) {
            due("book(0, " + what + ")", x.book(0, what), row[what]);
        }
        none("book(1, 0)", x.book(1, 0));
    }

    static void takesTheSlipsGivenTheLastTimeBack() {
        HoldSlips x = ship(2, 20);
        decree(x, "share 1;if slips=10:plus 1;if slips=3:plus 2;");
        x.image(0);
        passYear(x, true);
        x.give(6);
        due("SHARE by 3", x.tell(0, 2), 3);
        x.again(0);
        due("SHARE by 10", x.tell(0, 2), 2);
    }

    static void keepsImagesMadeBetween() {
        HoldSlips x = new HoldSlips();
        x.image(0);
        x.citizen(5, true);
        x.image(1);
        x.again(0);
        x.citizen(2, false);
        x.image(2);
        x.again(1);
        due("RANK of 1's", x.tell(0, 0), 5);
        due("WIDOW of 1's", x.tell(0, 1), 1);
        x.again(2);
        due("RANK of 2's", x.tell(0, 0), 2);
        due("WIDOW of 2's", x.tell(0, 1), 0);
    }
}
