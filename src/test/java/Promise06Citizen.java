public final class Promise06Citizen extends Checks {
    public static void main(String[] args) {
        runAll(Promise06Citizen.class);
    }

    static void numbersThemFromZeroOn() {
        HoldSlips x = new HoldSlips();
        for (int i = 0; i < 8; i++) {
            due("citizen", x.citizen(9 - i, i % 2 == 0), i);
        }
        for (int i = 0; i < 8; i++) {
            due("RANK of " + i, x.tell(i, 0), 9 - i);
            due("WIDOW " + i, x.tell(i, 1), i % 2 == 0 ? 1 : 0);
        }
    }

    static void isNoneWhenThereAreEight() {
        HoldSlips x = ship(8, 400);
        String before = picture(x);
        none("a ninth", x.citizen(0, false));
        none("a widow", x.citizen(9, true));
        unchanged(x, before);
        passYear(x, true);
        none("in the next YEAR", x.citizen(0, false));
    }

    static void takesRanksZeroToNine() {
        HoldSlips x = new HoldSlips();
        due("RANK 0", x.citizen(0, true), 0);
        due("RANK 9", x.citizen(9, true), 1);
        due("it is 0", x.tell(0, 0), 0);
        due("it is 9", x.tell(1, 0), 9);
    }

    static void isNoneForAnotherRank() {
        HoldSlips x = new HoldSlips();
        for (int rank : new int[] {-1, 10, LEAST, MOST}) {
            none("RANK " + rank, x.citizen(rank, false));
        }
        due("none came", x.count(0), 0);
        due("the first", x.citizen(1, false), 0);
    }

    static void hasNothingAtFirst() {
        HoldSlips x = ship(1, 10);
        due("a newcomer", x.citizen(5, false), 1);
        for (int what = 3; what <= 7; what++) {
            due("tell(1, " + what + ")", x.tell(1, what), 0);
        }
        due("but a SHARE", x.tell(1, 2), 1);
    }

    static void mayComeAtSea() {
        HoldSlips x = new HoldSlips();
        x.sail();
        due("citizen", x.citizen(3, true), 0);
        x.ends(true);
        due("it stays", x.tell(0, 0), 3);
        due("one more", x.citizen(4, false), 1);
    }
}
