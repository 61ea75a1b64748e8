public final class Promise17Sail extends Checks {
    public static void main(String[] args) {
        runAll(Promise17Sail.class);
    }

    static void sailsWithNothing() {
        HoldSlips x = new HoldSlips();
        x.rule(0, 0);
        x.rule(1, 0);
        yes("sail", x.sail());
        due("SAILED", x.count(5), 1);
        due("the YEAR goes on", x.count(4), 0);
    }

    static void isFalseWhenItDid() {
        HoldSlips x = ship(1, 10);
        yes("sail", x.sail());
        String before = picture(x);
        no("sail again", x.sail());
        unchanged(x, before);
        x.ends(false);
        yes("in the next YEAR", x.sail());
    }

    static void isFalseBeyondTheBound() {
        for (int side = 0; side <= 1; side++) {
            HoldSlips x = ship(1, 100);
            x.rule(0, 24);
            x.bale(0, 1, 75, 1);
            x.bale(0, 1, 50, 1);
            x.bale(0, 1, 1, 1);
            x.lade(0, 0, side);
            x.lade(1, 0, 1 - side);
            String before = picture(x);
            no("TILT 25 of 24", x.sail());
            unchanged(x, before);
            x.lade(2, 0, 1 - side);
            yes("TILT 24 of 24", x.sail());
        }
    }

    static void isFalseBeyondTheLoad() {
        HoldSlips x = ship(1, 100);
        x.rule(1, 150);
        x.bale(0, 1, 75, 1);
        x.bale(0, 1, 75, 1);
        x.bale(0, 1, 1, 1);
        x.lade(0, 0, 0);
        x.lade(1, 0, 1);
        x.lade(2, 0, 1);
        String before = picture(x);
        no("WEIGHT 151 of 150", x.sail());
        unchanged(x, before);
        x.unlade(2);
        yes("WEIGHT 150 of 150", x.sail());
    }

    static void weighsNotWhatWaits() {
        HoldSlips x = ship(1, 100);
        x.rule(0, 0);
        x.rule(1, 0);
        x.bale(0, 1, 200, 1);
        yes("sail", x.sail());
    }

    static void staysOpenWhenItIsRefused() {
        HoldSlips x = ship(1, 100);
        x.bale(0, 1, 101, 1);
        x.lade(0, 0, 0);
        no("TILT 101 of 100", x.sail());
        due("OPEN", x.count(5), 0);
        none("ends", x.ends(false));
        yes("unlade", x.unlade(0));
    }
}
