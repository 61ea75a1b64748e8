public final class Promise07Rule extends Checks {
    private static final int[] GREATEST = {2400, 2400, 12000, 9};

    public static void main(String[] args) {
        runAll(Promise07Rule.class);
    }

    /** Whether the ship would sail; it stays. */
    private static boolean wouldSail(HoldSlips x) {
        x.image(2);
        boolean sails = x.sail();
        x.again(2);
        return sails;
    }

    static void takesZeroAndTheGreatest() {
        HoldSlips x = new HoldSlips();
        for (int what = 0; what <= 3; what++) {
            yes("rule " + what + " 0", x.rule(what, 0));
            yes("rule " + what + " greatest", x.rule(what, GREATEST[what]));
        }
    }

    static void isFalseForOtherValues() {
        HoldSlips x = new HoldSlips();
        for (int what = 0; what <= 3; what++) {
            for (int value : new int[] {-1, GREATEST[what] + 1, LEAST, MOST}) {
                no("rule " + what + " " + value, x.rule(what, value));
            }
        }
    }

    static void isFalseForAnotherWhat() {
        HoldSlips x = new HoldSlips();
        for (int what : new int[] {-1, 4, LEAST, MOST}) {
            for (int value : new int[] {-1, 0, 5}) {
                no("rule " + what + " " + value, x.rule(what, value));
            }
        }
    }

    static void boundIsOfTheTiltEitherWay() {
        for (int side = 0; side <= 1; side++) {
            HoldSlips x = ship(1, 400);
            x.bale(0, 1, 7, 1);
            x.lade(0, 0, side);
            x.rule(0, 6);
            no("TILT 7 of 6", wouldSail(x));
            x.rule(0, 7);
            yes("TILT 7 of 7", wouldSail(x));
            x.rule(0, 0);
            no("TILT 7 of 0", wouldSail(x));
            x.unlade(0);
            yes("TILT 0 of 0", wouldSail(x));
        }
    }

    static void loadIsOfTheWholeWeight() {
        HoldSlips x = ship(1, 400);
        x.bale(0, 1, 7, 1);
        x.bale(0, 1, 9, 1);
        x.lade(0, 0, 0);
        x.lade(1, 0, 1);
        x.rule(1, 15);
        no("WEIGHT 16 of 15", wouldSail(x));
        x.rule(1, 16);
        yes("WEIGHT 16 of 16", wouldSail(x));
        x.rule(1, 0);
        no("WEIGHT 16 of 0", wouldSail(x));
        x.unlade(0);
        x.unlade(1);
        yes("WEIGHT 0 of 0", wouldSail(x));
    }

    static void twelveHeaviestAreBorneByTheGreatest() {
        HoldSlips x = ship(1, 400);
        for (int i = 0; i < 12; i++) {
            x.bale(0, 1, 200, 1000);
            x.lade(i, 0, 1);
        }
        x.rule(0, 2399);
        x.rule(1, 2400);
        no("TILT 2400 of 2399", wouldSail(x));
        x.rule(0, 2400);
        x.rule(1, 2399);
        no("WEIGHT 2400 of 2399", wouldSail(x));
        x.rule(1, 2400);
        yes("both of 2400", wouldSail(x));
        x.rule(2, 12000);
        due("12000 is not BEYOND 12000", x.board(-1, 0, 0, 2), 0);
        x.rule(2, 11999);
        due("12000 is BEYOND 11999", x.board(-1, 0, 0, 2), 1);
    }

    static void permitMayBeZero() {
        HoldSlips x = ship(1, 10);
        x.rule(2, 0);
        due("0 is not BEYOND 0", x.board(0, 0, 0, 2), 0);
        x.bale(0, 1, 1, 1);
        x.lade(0, 0, 0);
        due("1 is", x.board(1, 0, 0, 2), 1);
    }

    static void rentIsThatOfTheYearsEnd() {
        int[] rents = {0, 1, 9};
        for (int rent : rents) {
            HoldSlips x = ship(2, 20);
            x.bale(0, 10, 1, 1000);
            x.lade(0, 1, 0);
            x.rule(3, 5);
            x.sail();
            yes("rule at sea", x.rule(3, rent));
            x.ends(false);
            due("RENT " + rent + " for 10 SLIPS", x.tell(1, 7), 10 * rent);
        }
    }

    static void staysWhenItIsRefused() {
        HoldSlips x = ship(2, 20);
        x.bale(0, 10, 8, 6);
        x.lade(0, 1, 0);
        int[] values = {8, 8, 5, 0};
        for (int what = 0; what <= 3; what++) {
            yes("rule " + what, x.rule(what, values[what]));
            no("rule " + what + " -1", x.rule(what, -1));
            no("rule " + what + " beyond", x.rule(what, GREATEST[what] + 1));
        }
        no("rule 4", x.rule(4, 1));
        no("rule -1", x.rule(-1, 1));
        due("6 is BEYOND 5", x.board(1, 0, 0, 2), 1);
        yes("8 of 8", x.sail());
        x.ends(false);
        due("RENT 0", x.tell(1, 7), 0);
    }

    static void staysFromYearToYear() {
        HoldSlips x = ship(1, 10);
        x.rule(0, 3);
        x.rule(2, 3);
        passYear(x, true);
        x.give(10);
        x.bale(0, 1, 4, 4);
        x.lade(0, 0, 0);
        no("TILT 4 of 3", x.sail());
        due("4 is BEYOND 3", x.board(1, 0, 0, 2), 1);
    }
}
