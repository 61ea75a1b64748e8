public final class Promise08Give extends Checks {
    public static void main(String[] args) {
        runAll(Promise08Give.class);
    }

    /** Citizens of the ranks told, whose shares are their ranks. */
    private static HoldSlips byRanks(int... ranks) {
        HoldSlips x = new HoldSlips();
        StringBuilder text = new StringBuilder();
        for (int rank = 1; rank <= 9; rank++) {
            text.append("if rank=").append(rank).append(":share ").append(rank).append(';');
        }
        for (int rank : ranks) {
            x.citizen(rank, false);
        }
        due("decree", decree(x, text.toString()), 9);
        return x;
    }

    private static void given(HoldSlips x, int h, int... slips) {
        yes("give(" + h + ")", x.give(h));
        for (int i = 0; i < slips.length; i++) {
            due("SLIPS of " + i + " by " + h, x.tell(i, 3), slips[i]);
            due("FREE of " + i + " by " + h, x.tell(i, 4), slips[i]);
        }
    }

    static void givesBySharesCut() {
        given(byRanks(1, 2, 3), 60, 10, 20, 30);
        given(byRanks(5), 17, 17);
    }

    static void givesWhatIsLeftToTheGreatestRests() {
        // 10 * 3 / 11 is 2 rest 8, 10 * 2 / 11 is 1 rest 9: three are left
        given(byRanks(3, 3, 3, 2), 10, 3, 3, 2, 2);
        // 7 * 9 / 12 is 5 rest 3, 7 * 1 / 12 is 0 rest 7, 7 * 2 / 12 is 1 rest 2: one is left
        given(byRanks(9, 1, 2), 7, 5, 1, 1);
    }

    static void givesOfSeveralEqualRestsToTheLeast() {
        given(byRanks(1, 1, 1), 1, 1, 0, 0);
        given(byRanks(1, 1, 1), 2, 1, 1, 0);
        given(byRanks(2, 4, 4), 1, 0, 1, 0);
        given(byRanks(1, 1, 1, 1, 1, 1, 1, 1), 399, 50, 50, 50, 50, 50, 50, 50, 49);
    }

    static void givesNoneForAShareOfZero() {
        given(byRanks(0, 7, 0, 7), 3, 0, 2, 0, 1);
        given(byRanks(0, 0, 1), 400, 0, 0, 400);
    }

    static void givesByTheGreatestShares() {
        HoldSlips x = ship(8, 8);
        passYear(x, false);
        due("decree", decree(x, "if not rank=0:plus 999;" + "plus 999;".repeat(15)), 16);
        // 14985 and seven of 15984: 400 * 14985 / 126873 is 47 rest 30969, 400 * 15984 / 126873 is 50 rest 49950
        given(x, 400, 47, 51, 51, 51, 50, 50, 50, 50);
    }

    static void takesOneAndFourHundred() {
        given(byRanks(4), 1, 1);
        given(byRanks(4), 400, 400);
    }

    static void isFalseForAnotherNumber() {
        HoldSlips x = byRanks(4);
        String before = picture(x);
        for (int h : new int[] {0, -1, 401, LEAST, MOST}) {
            no("give(" + h + ")", x.give(h));
        }
        unchanged(x, before);
        given(x, 5, 5);
    }

    static void isFalseForTheSecondTimeInAYear() {
        HoldSlips x = byRanks(1, 1);
        given(x, 1, 1, 0);
        String before = picture(x);
        no("give(1)", x.give(1));
        no("give(400)", x.give(400));
        unchanged(x, before);
        x.sell(0, 1, 1, 0);
        no("give after a sale", x.give(2));
        passYear(x, false);
        given(x, 2, 1, 1);
    }

    static void isFalseWhenTheShipSailed() {
        HoldSlips x = byRanks(1);
        x.sail();
        String before = picture(x);
        no("give at sea", x.give(10));
        unchanged(x, before);
        x.ends(false);
        given(x, 10, 10);
    }

    static void isFalseWhenAllSharesAreZero() {
        HoldSlips x = byRanks(0, 0);
        String before = picture(x);
        no("give", x.give(10));
        unchanged(x, before);
        decree(x, "share 1;");
        given(x, 10, 5, 5);
    }

    static void isFalseWithoutCitizensOrDecree() {
        HoldSlips x = new HoldSlips();
        no("no CITIZENS, no DECREE", x.give(10));
        decree(x, "share 1;");
        no("no CITIZENS", x.give(10));
        HoldSlips y = new HoldSlips();
        y.citizen(1, false);
        no("no DECREE", y.give(10));
    }

    static void knowsAllSharesBeforeItGives() {
        HoldSlips x = byRanks(1, 1, 1);
        decree(x, "if slips=0:share 1;");
        given(x, 30, 10, 10, 10);
        no("now all SHARES are 0", x.tell(0, 2) + x.tell(1, 2) + x.tell(2, 2) != 0);
        passYear(x, false);
        no("in the next YEAR, too", x.give(30));
    }

    static void givesNoneToOneWhoComesLater() {
        HoldSlips x = byRanks(1);
        given(x, 10, 10);
        x.citizen(1, false);
        due("SLIPS of the newcomer", x.tell(1, 3), 0);
        due("SLIPS of the other", x.tell(0, 3), 10);
    }
}
