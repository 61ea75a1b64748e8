public final class Promise25Image extends Checks {
    public static void main(String[] args) {
        runAll(Promise25Image.class);
    }

    /** In its third year, with something of all that can be told, and a text on the tape. */
    private static HoldSlips wealthy() {
        HoldSlips x = ship(4, 200);
        x.bale(0, 20, 60, 300);
        x.lade(0, 1, 0);
        passYear(x, false);
        passYear(x, true);
        x.give(240);
        int[] rules = {70, 130, 500, 4};
        for (int what = 0; what < 4; what++) {
            x.rule(what, rules[what]);
        }
        x.bale(3, 11, 60, 401);
        x.bale(2, 12, 61, 402);
        x.bale(1, 13, 62, 403);
        x.press(0, 1);
        x.press(2, 3);
        x.lade(0, 2, 1);
        x.best();
        x.lade(1, 3, 0);
        x.loan(3, 1, 100, 7);
        x.loan(2, 0, 200, 9);
        x.sell(3, 0, 5, 77);
        decree(x, "share 1;!");
        put(x, "if widow and not rank=3 and year>1 and lost<4: share 17; plus 2;");
        return x;
    }

    /** Another ship in the same object, with as many of all as it bears. */
    private static void turnUpsideDown(HoldSlips x) {
        x.end(0);
        decree(x, "none;".repeat(3));
        decree(x, "share 8; if rank<2 or");
        put(x, "none;".repeat(20));
        for (int i = 0; i < 8; i++) {
            x.citizen(9, true);
        }
        x.sell(0, 3, 9, 5000);
        for (int what = 0; what < 4; what++) {
            x.rule(what, 9);
        }
        for (int i = 0; i < 3; i++) {
            x.unlade(i);
            x.press(i, 2);
        }
        x.rule(0, 2400);
        x.rule(1, 2400);
        x.best();
        x.lade(0, 1, 0);
        x.ladeBest();
        passYear(x, false);
        for (int i = 0; i < 12; i++) {
            x.bale(7, 1, 2, 3);
        }
        for (int i = 0; i < 20; i++) {
            x.loan(7, 6, 5, 4);
        }
        passYear(x, true);
        x.bale(6, 5, 4, 3);
    }

    /** What follows from the state that no call tells at once: rules, loans, tape, slips given the last time. */
    private static String future(HoldSlips x) {
        StringBuilder s = new StringBuilder();
        s.append(x.board(1, 30, 40, 2)).append(' ').append(x.best()).append(' ').append(x.give(9)).append(' ');
        s.append(x.sail()).append(' ').append(x.ends(false)).append('\n').append(picture(x)).append('\n');
        s.append(x.end(65)).append(' ').append(x.end(64)).append(' ').append(x.decree()).append(' ');
        s.append(x.tell(1, 2)).append(' ').append(x.tell(3, 2)).append(' ').append(x.tell(x.citizen(3, false), 2));
        decree(x, "if slips>59:share 5;if lost=1:plus 1;");
        return s.append(' ').append(x.tell(0, 2)).append(' ').append(x.tell(4, 2)).toString();
    }

    static void isTrueForZeroToTwo() {
        HoldSlips x = new HoldSlips();
        for (int k = 0; k <= 2; k++) {
            yes("image(" + k + ")", x.image(k));
            yes("again(" + k + ")", x.again(k));
        }
    }

    static void isFalseForAnotherK() {
        HoldSlips x = wealthy();
        String before = picture(x);
        for (int k : new int[] {-1, 3, LEAST, MOST}) {
            no("image(" + k + ")", x.image(k));
        }
        unchanged(x, before);
        for (int k = 0; k <= 2; k++) {
            no("again(" + k + ")", x.again(k));
        }
    }

    static void changesNothing() {
        HoldSlips x = wealthy();
        String before = picture(x);
        yes("image", x.image(1));
        unchanged(x, before);
        same("what follows", future(x), future(wealthy()));
    }

    static void isAllThatIsTold() {
        HoldSlips x = wealthy();
        String before = picture(x);
        yes("image", x.image(0));
        turnUpsideDown(x);
        no("another picture", picture(x).equals(before));
        yes("again", x.again(0));
        same("the picture", picture(x), before);
    }

    static void isAllThatFollows() {
        HoldSlips x = wealthy();
        yes("image", x.image(2));
        turnUpsideDown(x);
        yes("again", x.again(2));
        same("what follows", future(x), future(wealthy()));
    }

    static void isOfANewObjectToo() {
        HoldSlips x = new HoldSlips();
        String before = picture(x);
        x.image(0);
        turnUpsideDown(x);
        x.again(0);
        same("the picture", picture(x), before);
        none("the tape is empty", x.end(1));
        x.citizen(0, false);
        x.citizen(0, false);
        due("SILVER of one who is new", x.tell(1, 5), 0);
        due("SLIPS of one who is new", x.tell(1, 3), 0);
        decree(x, "if slips=0 and year=0 and lost=0:share 1;");
        due("SHARE", x.tell(1, 2), 1);
        yes("give", x.give(10));
        x.bale(0, 1, 100, 1000);
        none("it waits", x.about(0, 7));
        none("no BEST", x.bestSide(0));
        x.lade(0, 0, 0);
        due("PERMIT 1000", x.board(1, 0, 0, 2), 0);
        yes("BOUND 100", x.sail());
    }

    static void keepsTheRules() {
        HoldSlips x = ship(2, 40);
        x.bale(0, 10, 30, 100);
        x.lade(0, 1, 0);
        int[] rules = {30, 30, 100, 4};
        for (int what = 0; what < 4; what++) {
            x.rule(what, rules[what]);
        }
        x.image(0);
        for (int what = 0; what < 4; what++) {
            x.rule(what, 0);
        }
        x.image(1);
        x.again(0);
        due("PERMIT 100", x.board(1, 0, 0, 2), 0);
        x.rule(0, 2400);
        yes("LOAD 30", x.sail());
        x.again(0);
        x.rule(1, 2400);
        yes("BOUND 30", x.sail());
        x.ends(false);
        due("RENT 4", x.tell(1, 7), 40);
        x.again(1);
        due("PERMIT 0", x.board(1, 0, 0, 2), 1);
        x.rule(0, 2400);
        no("LOAD 0", x.sail());
        x.again(1);
        x.rule(1, 2400);
        no("BOUND 0", x.sail());
    }

    static void keepsTheTape() {
        HoldSlips x = new HoldSlips();
        put(x, "none;none;");
        x.image(0);
        x.decree();
        put(x, "share 1;share 2;share 3;");
        x.again(0);
        none("end(11)", x.end(11));
        due("end(10)", x.end(10), 10);
        due("decree", x.decree(), 2);
    }

    static void keepsTheFault() {
        HoldSlips x = new HoldSlips();
        decree(x, "none;!");
        x.image(0);
        decree(x, "none;".repeat(17));
        x.image(1);
        x.decree();
        x.image(2);
        x.again(0);
        due("FAULT of 0", x.fault(0), 1);
        due("its place", x.fault(1), 5);
        x.again(1);
        due("FAULT of 1", x.fault(0), 3);
        due("its place", x.fault(1), 80);
        x.again(2);
        due("FAULT of 2", x.fault(0), 0);
        none("its place", x.fault(1));
    }

    static void keepsTheBestAtHand() {
        HoldSlips x = ship(1, 10);
        x.bale(0, 1, 60, 5);
        x.bale(0, 1, 60, 5);
        x.image(0);
        x.best();
        x.image(1);
        x.lade(0, 0, 1);
        x.best();
        due("another BEST", x.bestSide(0), 2);
        x.again(1);
        due("BEST of 1", x.bestSide(0), 0);
        due("BEST of 1", x.bestSide(1), 1);
        x.again(0);
        none("no BEST of 0", x.bestSide(0));
        none("no BEST of 0", x.ladeBest());
        x.again(1);
        due("BEST of 1", x.ladeBest(), 2);
    }

    static void isAsItIsNowAlone() {
        HoldSlips x = new HoldSlips();
        x.citizen(5, true);
        x.image(0);
        x.citizen(6, false);
        x.again(0);
        due("CITIZENS", x.count(0), 1);
        x.citizen(7, false);
        x.image(0);
        x.citizen(8, false);
        x.again(0);
        due("the later image", x.count(0), 2);
        due("RANK", x.tell(1, 0), 7);
    }
}
