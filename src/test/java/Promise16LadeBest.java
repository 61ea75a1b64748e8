public final class Promise16LadeBest extends Checks {
    public static void main(String[] args) {
        runAll(Promise16LadeBest.class);
    }

    /** Two citizens with 10 slips each; best lays all three: 0 and 2 (of citizen 0), 1 (of citizen 1). */
    private static HoldSlips planned() {
        HoldSlips x = ship(2, 20);
        x.rule(0, 10);
        x.bale(0, 6, 30, 50);
        x.bale(1, 7, 20, 40);
        x.bale(0, 4, 10, 30);
        due("best", x.best(), 120);
        return x;
    }

    private static void lies(HoldSlips x, int bale, int holder, int side) {
        due("HOLDER of " + bale, x.about(bale, 7), holder);
        due("SIDE of " + bale, x.about(bale, 8), side);
    }

    static void laysThemOnTheirOwnersSlips() {
        HoldSlips x = planned();
        due("ladeBest", x.ladeBest(), 3);
        lies(x, 0, 0, 0);
        lies(x, 1, 1, 1);
        lies(x, 2, 0, 1);
        due("they lie", x.count(2), 3);
        due("TILT", x.count(7), 0);
        due("FREE of 0", x.tell(0, 4), 0);
        due("FREE of 1", x.tell(1, 4), 3);
        yes("the ship bears it", x.sail());
    }

    static void laysThemAmongTwelve() {
        HoldSlips x = ship(1, 400);
        for (int i = 0; i < 12; i++) {
            x.bale(0, 1, 1, 1);
        }
        for (int i = 0; i < 3; i++) {
            yes("lade", x.lade(i, 0, 1));
        }
        due("best", x.best(), 9);
        due("ladeBest", x.ladeBest(), 9);
        due("they lie", x.count(2), 12);
        due("TILT", x.count(7), 6);
    }

    static void laysNoneThatWaitsOn() {
        HoldSlips x = ship(1, 10);
        x.bale(0, 6, 1, 50);
        x.bale(0, 6, 1, 60);
        due("best", x.best(), 60);
        due("ladeBest", x.ladeBest(), 1);
        lies(x, 0, NONE, NONE);
        lies(x, 1, 0, 0);
    }

    static void leavesThoseWithoutSoManyFree() {
        HoldSlips x = planned();
        x.sell(0, 1, 5, 0);
        due("ladeBest", x.ladeBest(), 2);
        lies(x, 0, NONE, NONE);
        lies(x, 1, 1, 1);
        lies(x, 2, 0, 1);
    }

    static void laysBaleByBaleFromTheFirst() {
        HoldSlips x = planned();
        x.sell(0, 1, 4, 0);
        due("ladeBest", x.ladeBest(), 2);
        lies(x, 0, 0, 0);
        lies(x, 1, 1, 1);
        lies(x, 2, NONE, NONE);
    }

    static void leavesThoseThatLie() {
        HoldSlips x = planned();
        yes("lade", x.lade(0, 1, 1));
        due("ladeBest", x.ladeBest(), 1);
        lies(x, 0, 1, 1);
        lies(x, 1, NONE, NONE);
        lies(x, 2, 0, 1);
    }

    static void countsThePressedRoomOfNow() {
        HoldSlips x = planned();
        x.sell(0, 1, 1, 0);
        x.press(0, 2);
        due("ROOM 5 and 4 of 9", x.ladeBest(), 3);
        HoldSlips y = ship(1, 9);
        y.bale(0, 10, 1, 1);
        y.press(0, 1);
        due("best", y.best(), 1);
        y.press(0, 0);
        due("ROOM 10 of 9", y.ladeBest(), 0);
    }

    static void asksNotWhatTheShipBearsNow() {
        HoldSlips x = planned();
        x.rule(0, 0);
        x.rule(1, 0);
        due("ladeBest", x.ladeBest(), 3);
        no("sail", x.sail());
    }

    static void isZeroWhenNothingIsToBeLaid() {
        HoldSlips x = ship(1, 10);
        x.best();
        due("no BALES", x.ladeBest(), 0);
        x.bale(0, 1, 1, 1);
        due("one that came later", x.ladeBest(), 0);
        lies(x, 0, NONE, NONE);
    }

    static void staysAtHand() {
        HoldSlips x = planned();
        due("ladeBest", x.ladeBest(), 3);
        due("once more", x.ladeBest(), 0);
        x.unlade(1);
        due("the one that waits again", x.ladeBest(), 1);
        lies(x, 1, 1, 1);
    }

    static void isNoneWhenNoneIsAtHand() {
        HoldSlips x = ship(1, 10);
        x.bale(0, 1, 1, 1);
        none("ladeBest", x.ladeBest());
        due("none lies", x.count(2), 0);
        x.best();
        passYear(x, true);
        none("in the next YEAR", x.ladeBest());
    }

    static void isNoneWhenTheShipSailed() {
        HoldSlips x = planned();
        x.sail();
        String before = picture(x);
        none("ladeBest at sea", x.ladeBest());
        unchanged(x, before);
    }
}
