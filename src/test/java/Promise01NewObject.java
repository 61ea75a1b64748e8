public final class Promise01NewObject extends Checks {
    public static void main(String[] args) {
        runAll(Promise01NewObject.class);
    }

    static void noneIsBelowZeroByOne() {
        due("NONE", HoldSlips.NONE, -1);
    }

    static void hasNoCitizens() {
        HoldSlips x = new HoldSlips();
        due("CITIZENS", x.count(0), 0);
        for (int what = 0; what <= 7; what++) {
            due("tell(0, " + what + ")", x.tell(0, what), FAR);
        }
        none("a BALE without an OWNER", x.bale(0, 1, 1, 1));
        no("SLIPS for nobody", x.give(1));
    }

    static void hasNoDecreeSoThatAllSharesAreZero() {
        HoldSlips x = new HoldSlips();
        due("LINES", x.count(6), 0);
        due("FAULT", x.fault(0), 0);
        none("its place", x.fault(1));
        x.citizen(0, false);
        x.citizen(9, true);
        due("SHARE of 0", x.tell(0, 2), 0);
        due("SHARE of 1", x.tell(1, 2), 0);
        no("give", x.give(10));
    }

    static void isInYearZero() {
        HoldSlips x = new HoldSlips();
        due("YEAR", x.count(4), 0);
        for (int what = 0; what <= 8; what++) {
            none("book(0, " + what + ")", x.book(0, what));
        }
        passYear(x, false);
        due("the next one", x.count(4), 1);
    }

    static void isOpen() {
        HoldSlips x = new HoldSlips();
        due("SAILED", x.count(5), 0);
        none("ends", x.ends(false));
        none("ends", x.ends(true));
        yes("it SAILS", x.sail());
    }

    static void hasPermit1000() {
        HoldSlips x = ship(1, 400);
        x.bale(0, 1, 1, 1000);
        x.bale(0, 1, 1, 1);
        x.lade(0, 0, 0);
        due("1000 is not BEYOND", x.board(1, 0, 0, 2), 0);
        x.lade(1, 0, 0);
        due("1001 is", x.board(3, 0, 0, 2), 1);
    }

    static void hasNoImages() {
        HoldSlips x = new HoldSlips();
        for (int k = 0; k <= 2; k++) {
            no("again(" + k + ")", x.again(k));
        }
    }

    static void hasBound100() {
        for (int side = 0; side <= 1; side++) {
            HoldSlips x = ship(1, 400);
            x.bale(0, 1, 101, 1);
            x.bale(0, 1, 100, 1);
            x.lade(0, 0, side);
            no("TILT 101, SIDE " + side, x.sail());
            x.unlade(0);
            x.lade(1, 0, side);
            yes("TILT 100, SIDE " + side, x.sail());
        }
    }

    static void hasLoad1000() {
        HoldSlips x = ship(1, 400);
        for (int i = 0; i < 10; i++) {
            x.bale(0, 1, 100, 1);
            x.lade(i, 0, i % 2);
        }
        x.bale(0, 1, 1, 1);
        x.lade(10, 0, 0);
        no("WEIGHT 1001", x.sail());
        x.unlade(10);
        yes("WEIGHT 1000", x.sail());
    }

    static void hasRent1() {
        HoldSlips x = ship(2, 20);
        x.bale(0, 10, 1, 1000);
        x.lade(0, 1, 0);
        passYear(x, false);
        due("RENT for 10 SLIPS", x.tell(1, 7), 10);
    }

    static void hasNoBalesNoLoansNoBest() {
        HoldSlips x = new HoldSlips();
        for (int what = 0; what <= 9; what++) {
            due("count(" + what + ")", x.count(what), 0);
        }
        none("about", x.about(0, 0));
        none("bestSide", x.bestSide(0));
        none("ladeBest", x.ladeBest());
    }

    static void hasAnEmptyTape() {
        HoldSlips x = new HoldSlips();
        none("end(1)", x.end(1));
        due("end(0)", x.end(0), 0);
        due("feed", x.feed(0, 0, 0, 0, 0), 20);
    }

    static void hasNothingOfAnotherObject() {
        HoldSlips x = ship(3, 30);
        x.bale(0, 1, 1, 1);
        x.loan(0, 1, 1, 1);
        x.rule(0, 0);
        x.image(0);
        x.best();
        String before = picture(x);
        hasNoBalesNoLoansNoBest();
        hasNoImages();
        HoldSlips y = ship(8, 400);
        y.sell(0, 1, 5, 5);
        passYear(y, true);
        unchanged(x, before);
    }
}
