public final class Promise11Press extends Checks {
    public static void main(String[] args) {
        runAll(Promise11Press.class);
    }

    private static HoldSlips withBale(int size, int worth) {
        HoldSlips x = ship(1, 100);
        due("bale", x.bale(0, size, 10, worth), 0);
        return x;
    }

    private static void pressed(int size, int worth, int level, int room, int value) {
        HoldSlips x = withBale(size, worth);
        yes("press(0, " + level + ")", x.press(0, level));
        due("level", x.about(0, 4), level);
        due("ROOM of " + size + " by " + level, x.about(0, 5), room);
        due("VALUE of " + worth + " by " + level, x.about(0, 6), value);
        due("SIZE stays", x.about(0, 1), size);
        due("WORTH stays", x.about(0, 3), worth);
        due("WEIGHT stays", x.about(0, 2), 10);
    }

    static void takesLevelsZeroToThree() {
        pressed(40, 1000, 0, 40, 1000);
        pressed(40, 1000, 1, 36, 950);
        pressed(40, 1000, 2, 32, 900);
        pressed(40, 1000, 3, 28, 850);
    }

    static void cutsWhatIsTakenOff() {
        // 39 * 3 / 10 is 11, 999 * 3 / 20 is 149
        pressed(39, 999, 1, 36, 950);
        pressed(39, 999, 2, 32, 900);
        pressed(39, 999, 3, 28, 850);
        pressed(9, 19, 1, 9, 19);
        pressed(10, 20, 1, 9, 19);
        pressed(4, 9, 2, 4, 9);
        pressed(5, 10, 2, 4, 9);
        pressed(3, 6, 3, 3, 6);
        pressed(4, 7, 3, 3, 6);
        pressed(1, 1, 3, 1, 1);
    }

    static void pressesAnew() {
        HoldSlips x = withBale(39, 999);
        yes("3", x.press(0, 3));
        yes("3 again", x.press(0, 3));
        due("ROOM 3", x.about(0, 5), 28);
        yes("1", x.press(0, 1));
        due("ROOM 1", x.about(0, 5), 36);
        yes("0", x.press(0, 0));
        due("ROOM 0", x.about(0, 5), 39);
        due("VALUE 0", x.about(0, 6), 999);
    }

    static void isFalseForAnotherLevel() {
        HoldSlips x = withBale(39, 999);
        x.press(0, 2);
        String before = picture(x);
        for (int level : new int[] {-1, 4, LEAST, MOST}) {
            no("level " + level, x.press(0, level));
        }
        unchanged(x, before);
    }

    static void isFalseWithoutSuchABale() {
        HoldSlips x = withBale(39, 999);
        String before = picture(x);
        for (int bale : new int[] {-1, 1, 11, 12, LEAST, MOST}) {
            no("BALE " + bale, x.press(bale, 1));
        }
        unchanged(x, before);
        due("the next BALE", x.bale(0, 10, 1, 1), 1);
        due("is not PRESSED", x.about(1, 4), 0);
    }

    static void isFalseAsItLies() {
        HoldSlips x = withBale(39, 999);
        x.lade(0, 0, 1);
        String before = picture(x);
        for (int level = 0; level <= 3; level++) {
            no("press as it lies", x.press(0, level));
        }
        unchanged(x, before);
        x.unlade(0);
        yes("as it waits again", x.press(0, 2));
    }

    static void isFalseWhenTheShipSailed() {
        HoldSlips x = withBale(39, 999);
        x.sail();
        String before = picture(x);
        no("press at sea", x.press(0, 1));
        unchanged(x, before);
    }

    static void isGoneWithTheYear() {
        HoldSlips x = withBale(39, 999);
        x.press(0, 3);
        passYear(x, false);
        no("no such BALE", x.press(0, 1));
        x.bale(0, 10, 1, 100);
        due("level", x.about(0, 4), 0);
        due("ROOM", x.about(0, 5), 10);
        due("VALUE", x.about(0, 6), 100);
    }
}
