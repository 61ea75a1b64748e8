public final class Promise14Best extends Checks {
    public static void main(String[] args) {
        runAll(Promise14Best.class);
    }

    private static void best(HoldSlips x, int value, int... sides) {
        due("best", x.best(), value);
        for (int i = 0; i < sides.length; i++) {
            due("SIDE of " + i, x.bestSide(i), sides[i]);
        }
    }

    static void hasTheMostValue() {
        HoldSlips x = ship(1, 10);
        x.bale(0, 10, 10, 98);
        x.bale(0, 5, 10, 50);
        x.bale(0, 5, 10, 49);
        best(x, 99, 2, 0, 0);
    }

    static void hasOfEqualValuesTheFewestSlips() {
        HoldSlips x = ship(1, 10);
        x.bale(0, 10, 10, 99);
        x.bale(0, 5, 10, 50);
        x.bale(0, 4, 10, 49);
        best(x, 99, 2, 0, 0);
        HoldSlips y = ship(1, 10);
        y.bale(0, 4, 10, 49);
        y.bale(0, 5, 10, 50);
        y.bale(0, 8, 10, 99);
        best(y, 99, 2, 2, 0);
    }

    static void hasOfEqualSlipsTheLeastRow() {
        HoldSlips x = ship(1, 10);
        for (int i = 0; i < 3; i++) {
            x.bale(0, 10, 10, 50);
        }
        best(x, 50, 0, 2, 2);
        HoldSlips y = ship(1, 10);
        y.bale(0, 10, 10, 50);
        y.bale(0, 5, 10, 25);
        y.bale(0, 5, 10, 25);
        best(y, 50, 0, 2, 2);
    }

    static void laysOnSideZeroBeforeOne() {
        HoldSlips x = ship(1, 100);
        for (int i = 0; i < 3; i++) {
            x.bale(0, 1, 30, 1);
        }
        best(x, 3, 0, 0, 0);
        x.rule(0, 30);
        best(x, 3, 0, 0, 1);
        x.rule(0, 29);
        best(x, 2, 0, 1, 2);
    }

    static void countsThePressedValueAndRoom() {
        HoldSlips x = ship(1, 9);
        x.bale(0, 10, 1, 100);
        best(x, 0, 2);
        x.press(0, 1);
        best(x, 95, 0);
        x.bale(0, 9, 1, 96);
        best(x, 96, 2, 0);
    }

    static void laysOnTheOwnersSlipsAlone() {
        HoldSlips x = ship(2, 20);
        x.bale(0, 6, 1, 10);
        x.bale(0, 6, 1, 11);
        best(x, 11, 2, 0);
        x.sell(1, 0, 2, 0);
        best(x, 21, 0, 0);
    }

    static void laysOnFreeSlipsAlone() {
        HoldSlips x = ship(2, 20);
        x.bale(1, 4, 1, 1);
        x.bale(0, 7, 1, 50);
        yes("lade", x.lade(0, 0, 0));
        best(x, 0, 2, 2);
        x.sell(1, 0, 1, 0);
        best(x, 50, 2, 0);
    }

    static void isBesideWhatLies() {
        HoldSlips x = ship(1, 100);
        x.bale(0, 1, 60, 500);
        x.bale(0, 1, 60, 30);
        yes("lade", x.lade(0, 0, 0));
        best(x, 30, 2, 1);
        x.rule(0, 0);
        best(x, 30, 2, 1);
        x.rule(1, 119);
        none("TILT 60 alone, too heavy with both", x.best());
    }

    static void keepsTheBoundEitherWay() {
        for (int side = 0; side <= 1; side++) {
            HoldSlips x = ship(1, 100);
            x.bale(0, 1, 50, 9);
            x.bale(0, 1, 20, 9);
            x.lade(0, 0, side);
            x.rule(0, 30);
            best(x, 9, 2, 1 - side);
            x.rule(0, 29);
            none("TILT 30 of 29", x.best());
            x.rule(0, 69);
            best(x, 9, 2, side == 0 ? 1 : 0);
            x.rule(0, 70);
            best(x, 9, 2, 0);
        }
    }

    static void keepsTheLoad() {
        HoldSlips x = ship(1, 100);
        x.bale(0, 1, 50, 9);
        x.bale(0, 1, 49, 8);
        x.rule(1, 99);
        best(x, 17, 0, 0);
        x.rule(1, 98);
        best(x, 9, 0, 2);
        x.rule(1, 49);
        best(x, 8, 2, 0);
        x.rule(1, 48);
        best(x, 0, 2, 2);
    }

    static void mayLayNothing() {
        HoldSlips x = new HoldSlips();
        best(x, 0);
        due("it is at hand", x.ladeBest(), 0);
        x.citizen(0, false);
        x.bale(0, 1, 1, 1);
        best(x, 0, 2);
        x.rule(0, 0);
        x.rule(1, 0);
        best(x, 0, 2);
    }

    static void isAskedIfNineWait() {
        HoldSlips x = ship(1, 400);
        for (int i = 0; i < 9; i++) {
            x.bale(0, 1, 1, 1 << i);
        }
        best(x, 511, 0, 0, 0, 0, 0, 0, 0, 0, 0);
        x.rule(0, 0);
        best(x, 510, 2, 0, 0, 0, 0, 1, 1, 1, 1);
    }

    static void isAskedIfNineOfTwelveWait() {
        HoldSlips x = ship(1, 400);
        for (int i = 0; i < 12; i++) {
            x.bale(0, 1, 1, 10);
        }
        none("12 wait", x.best());
        x.lade(0, 0, 0);
        x.lade(5, 0, 0);
        none("10 wait", x.best());
        x.lade(11, 0, 0);
        best(x, 90, 2, 0, 0, 0, 0, 2, 0, 0, 0, 0, 0, 2);
    }

    static void isNoneIfTenWait() {
        HoldSlips x = ship(1, 400);
        for (int i = 0; i < 10; i++) {
            x.bale(0, 1, 1, 1);
        }
        none("best", x.best());
        none("none is at hand", x.bestSide(0));
    }

    static void isNoneWhenTheShipSailed() {
        HoldSlips x = ship(1, 400);
        x.bale(0, 1, 1, 1);
        x.sail();
        none("best at sea", x.best());
        none("none is at hand", x.bestSide(0));
    }

    static void isNoneIfNothingRightsTheShip() {
        HoldSlips x = ship(1, 400);
        x.bale(0, 1, 101, 1);
        x.bale(0, 40, 1, 1);
        x.lade(0, 0, 1);
        best(x, 1, 2, 0);
        x.press(1, 1);
        x.sell(0, x.citizen(0, false), 364, 0);
        none("no SLIPS for the other one", x.best());
        x.unlade(0);
        x.rule(1, 100);
        x.lade(0, 0, 0);
        none("too heavy", x.best());
    }

    static void leavesTheOneAtHandWhenItIsNone() {
        HoldSlips x = ship(1, 400);
        x.bale(0, 1, 50, 7);
        x.bale(0, 1, 40, 6);
        best(x, 13, 0, 0);
        x.lade(1, 0, 1);
        x.rule(1, 39);
        none("too heavy", x.best());
        due("SIDE of 0", x.bestSide(0), 0);
        due("SIDE of 1", x.bestSide(1), 0);
        x.rule(1, 1000);
        for (int i = 2; i < 11; i++) {
            x.bale(0, 1, 1, 1);
        }
        none("ten wait", x.best());
        due("SIDE of 1", x.bestSide(1), 0);
        due("it can be done", x.ladeBest(), 1);
        x.sail();
        none("at sea", x.best());
        due("SIDE of 0", x.bestSide(0), 0);
    }

    static void isAtHandUntilAnotherOneIs() {
        HoldSlips x = ship(1, 400);
        x.bale(0, 1, 50, 7);
        best(x, 7, 0);
        x.lade(0, 0, 1);
        due("SIDE", x.bestSide(0), 0);
        best(x, 0, 2);
    }

    static void isAtHandUntilTheYearEnds() {
        HoldSlips x = ship(1, 400);
        x.bale(0, 1, 50, 7);
        best(x, 7, 0);
        passYear(x, false);
        x.bale(0, 1, 50, 7);
        none("bestSide", x.bestSide(0));
        none("ladeBest", x.ladeBest());
    }

    /** A search that has more bales before it leaves nothing to one that has fewer. */
    static void knowsNothingOfTheOneBefore() {
        HoldSlips x = ship(1, 400);
        for (int i = 0; i < 3; i++) {
            x.bale(0, 1, 100, 10);
        }
        best(x, 30, 0, 0, 1);
        x.lade(0, 0, 0);
        x.lade(1, 0, 0);
        best(x, 10, 2, 2, 1);
        x.rule(0, 2400);
        best(x, 10, 2, 2, 0);
        HoldSlips y = ship(1, 400);
        y.bale(0, 10, 60, 10);
        y.bale(0, 5, 60, 10);
        y.bale(0, 40, 60, 10);
        best(y, 30, 0, 0, 1);
        y.lade(2, 0, 1);
        y.rule(1, 120);
        best(y, 10, 2, 0, 2);
    }

    static void laysNothingItself() {
        HoldSlips x = ship(1, 400);
        x.bale(0, 1, 50, 7);
        best(x, 7, 0);
        due("none lies", x.count(2), 0);
        due("all are FREE", x.tell(0, 4), 400);
        none("SIDE", x.about(0, 8));
    }
}
