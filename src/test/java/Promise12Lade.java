public final class Promise12Lade extends Checks {
    public static void main(String[] args) {
        runAll(Promise12Lade.class);
    }

    /** Two citizens with 10 slips each, and bales of 10, 4 and 7. */
    private static HoldSlips waiting() {
        HoldSlips x = ship(2, 20);
        x.bale(0, 10, 70, 5);
        x.bale(0, 4, 30, 5);
        x.bale(1, 7, 11, 5);
        return x;
    }

    static void laysABaleOnItsOwnersSlips() {
        HoldSlips x = waiting();
        yes("lade", x.lade(1, 0, 1));
        due("HOLDER", x.about(1, 7), 0);
        due("SIDE", x.about(1, 8), 1);
        due("SLIPS", x.tell(0, 3), 10);
        due("FREE", x.tell(0, 4), 6);
        due("it lies", x.count(2), 1);
        due("TILT", x.count(7), -30);
        due("WEIGHT", x.count(8), 30);
    }

    static void laysABaleOnAnothersSlips() {
        HoldSlips x = waiting();
        yes("lade", x.lade(1, 1, 0));
        due("HOLDER", x.about(1, 7), 1);
        due("OWNER", x.about(1, 0), 0);
        due("FREE of the OWNER", x.tell(0, 4), 10);
        due("FREE of the HOLDER", x.tell(1, 4), 6);
    }

    static void takesAllThatAreFree() {
        HoldSlips x = waiting();
        yes("ROOM 10 of 10", x.lade(0, 0, 0));
        due("FREE", x.tell(0, 4), 0);
    }

    static void isFalseWithoutSoManyFree() {
        HoldSlips x = waiting();
        yes("4 of 10", x.lade(1, 1, 0));
        String before = picture(x);
        no("7 of 6", x.lade(2, 1, 0));
        no("10 of 6", x.lade(0, 1, 1));
        unchanged(x, before);
        yes("7 pressed by 2 has 6", x.press(2, 2));
        yes("6 of 6", x.lade(2, 1, 0));
        no("10 of 0", x.lade(0, 1, 1));
    }

    static void isFalseForOneMoreThanAreFree() {
        HoldSlips x = waiting();
        x.bale(0, 11, 1, 1);
        no("11 of 10", x.lade(3, 0, 0));
        x.sell(1, 0, 1, 0);
        yes("11 of 11", x.lade(3, 0, 0));
        no("1 of 0", x.lade(x.bale(0, 1, 1, 1), 0, 0));
        no("10 of 9", x.lade(0, 1, 0));
    }

    static void isFalseWithoutSlips() {
        HoldSlips x = new HoldSlips();
        x.citizen(0, false);
        x.bale(0, 1, 1, 1);
        no("1 of 0", x.lade(0, 0, 0));
    }

    static void isFalseWithoutSuchABale() {
        HoldSlips x = waiting();
        String before = picture(x);
        for (int bale : new int[] {-1, 3, 11, 12, LEAST, MOST}) {
            no("BALE " + bale, x.lade(bale, 0, 0));
        }
        unchanged(x, before);
    }

    static void isFalseWithoutSuchAHolder() {
        HoldSlips x = waiting();
        String before = picture(x);
        for (int holder : new int[] {-1, 2, 7, 8, LEAST, MOST}) {
            no("HOLDER " + holder, x.lade(0, holder, 0));
        }
        unchanged(x, before);
    }

    static void isFalseWithoutSuchASide() {
        HoldSlips x = waiting();
        String before = picture(x);
        for (int side : new int[] {-1, 2, LEAST, MOST}) {
            no("SIDE " + side, x.lade(0, 0, side));
        }
        unchanged(x, before);
    }

    static void isFalseAsItLies() {
        HoldSlips x = waiting();
        yes("lade", x.lade(1, 0, 0));
        String before = picture(x);
        no("as it lies there", x.lade(1, 0, 0));
        no("on the other SIDE", x.lade(1, 0, 1));
        no("on another's SLIPS", x.lade(1, 1, 0));
        unchanged(x, before);
    }

    static void isFalseWhenTheShipSailed() {
        HoldSlips x = waiting();
        x.sail();
        String before = picture(x);
        no("lade at sea", x.lade(0, 0, 0));
        unchanged(x, before);
    }

    static void asksNotWhatTheShipBears() {
        HoldSlips x = waiting();
        x.rule(0, 0);
        x.rule(1, 0);
        yes("lade", x.lade(0, 0, 0));
        due("WEIGHT", x.count(8), 70);
        no("but it does not SAIL", x.sail());
    }
}
