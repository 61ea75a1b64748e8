public final class Promise15BestSide extends Checks {
    public static void main(String[] args) {
        runAll(Promise15BestSide.class);
    }

    static void tellsTheSides() {
        HoldSlips x = ship(1, 100);
        x.rule(0, 0);
        x.bale(0, 1, 30, 10);
        x.bale(0, 1, 20, 10);
        x.bale(0, 1, 10, 10);
        due("best", x.best(), 30);
        due("0", x.bestSide(0), 0);
        due("1", x.bestSide(1), 1);
        due("2", x.bestSide(2), 1);
    }

    static void isTwoForOneThatWaitsOn() {
        HoldSlips x = ship(1, 100);
        x.bale(0, 1, 101, 10);
        x.bale(0, 1, 100, 10);
        due("best", x.best(), 20);
        x.rule(1, 200);
        due("best", x.best(), 10);
        due("0", x.bestSide(0), 2);
        due("1", x.bestSide(1), 0);
    }

    static void isTwoForOneThatLay() {
        HoldSlips x = ship(1, 100);
        x.bale(0, 1, 30, 10);
        x.bale(0, 1, 20, 10);
        x.lade(0, 0, 0);
        due("best", x.best(), 10);
        due("it lay", x.bestSide(0), 2);
        x.unlade(0);
        due("it waits now", x.bestSide(0), 2);
    }

    static void isTwoForOneThatCameLater() {
        HoldSlips x = ship(1, 100);
        x.best();
        none("there is none such yet", x.bestSide(0));
        for (int i = 0; i < 12; i++) {
            x.bale(0, 1, 1, 1);
            due("it came later", x.bestSide(i), 2);
        }
        x.lade(3, 0, 1);
        due("as it lies, too", x.bestSide(3), 2);
    }

    static void isNoneWhenNoneIsAtHand() {
        HoldSlips x = ship(1, 100);
        x.bale(0, 1, 1, 1);
        none("bestSide", x.bestSide(0));
        none("bestSide", x.bestSide(1));
    }

    static void isNoneWithoutSuchABale() {
        HoldSlips x = ship(1, 100);
        x.bale(0, 1, 1, 1);
        x.best();
        for (int bale : new int[] {-1, 1, 11, 12, LEAST, MOST}) {
            none("BALE " + bale, x.bestSide(bale));
        }
    }

    static void isNoneWhenTheYearHasEnded() {
        for (boolean lost : new boolean[] {false, true}) {
            HoldSlips x = ship(1, 100);
            x.bale(0, 1, 1, 1);
            x.best();
            passYear(x, lost);
            none("no such BALE", x.bestSide(0));
            x.bale(0, 1, 1, 1);
            none("none at hand", x.bestSide(0));
        }
    }

    static void staysAsTheShipSails() {
        HoldSlips x = ship(1, 100);
        x.bale(0, 1, 1, 1);
        x.best();
        x.sail();
        due("at sea", x.bestSide(0), 0);
    }

    static void staysWhateverBecomesOfTheBales() {
        HoldSlips x = ship(1, 100);
        x.bale(0, 10, 30, 10);
        x.bale(0, 10, 30, 10);
        x.rule(0, 0);
        x.best();
        x.press(0, 3);
        x.lade(1, 0, 0);
        x.rule(1, 0);
        due("0", x.bestSide(0), 0);
        due("1", x.bestSide(1), 1);
        x.unlade(1);
        due("1", x.bestSide(1), 1);
    }
}
