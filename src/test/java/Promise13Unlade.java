public final class Promise13Unlade extends Checks {
    public static void main(String[] args) {
        runAll(Promise13Unlade.class);
    }

    private static HoldSlips laden() {
        HoldSlips x = ship(2, 20);
        x.bale(0, 10, 70, 5);
        x.bale(0, 4, 30, 5);
        yes("lade", x.lade(0, 1, 0));
        return x;
    }

    static void letsItWaitAgain() {
        HoldSlips x = laden();
        yes("unlade", x.unlade(0));
        none("HOLDER", x.about(0, 7));
        none("SIDE", x.about(0, 8));
        due("FREE", x.tell(1, 4), 10);
        due("none lies", x.count(2), 0);
        due("TILT", x.count(7), 0);
        due("WEIGHT", x.count(8), 0);
        due("it is there", x.count(1), 2);
        yes("and may be laden anew", x.lade(0, 0, 1));
    }

    static void keepsItsLevel() {
        HoldSlips x = laden();
        x.press(1, 3);
        x.lade(1, 0, 0);
        x.unlade(1);
        due("level", x.about(1, 4), 3);
    }

    static void isFalseWithoutSuchABale() {
        HoldSlips x = laden();
        String before = picture(x);
        for (int bale : new int[] {-1, 2, 11, 12, LEAST, MOST}) {
            no("BALE " + bale, x.unlade(bale));
        }
        unchanged(x, before);
        no("of a new object", new HoldSlips().unlade(0));
    }

    static void isFalseAsItWaits() {
        HoldSlips x = laden();
        String before = picture(x);
        no("one that never lay", x.unlade(1));
        unchanged(x, before);
        x.unlade(0);
        no("one that waits again", x.unlade(0));
    }

    static void isFalseWhenTheShipSailed() {
        HoldSlips x = laden();
        yes("sail", x.sail());
        String before = picture(x);
        no("unlade at sea", x.unlade(0));
        unchanged(x, before);
        x.ends(false);
        no("it is gone", x.unlade(0));
    }
}
