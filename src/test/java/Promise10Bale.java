public final class Promise10Bale extends Checks {
    public static void main(String[] args) {
        runAll(Promise10Bale.class);
    }

    static void numbersThemFromZeroOn() {
        HoldSlips x = ship(2, 20);
        for (int i = 0; i < 12; i++) {
            due("bale", x.bale(i % 2, 40 - i, 200 - i, 1000 - i), i);
        }
        for (int i = 0; i < 12; i++) {
            due("OWNER of " + i, x.about(i, 0), i % 2);
            due("SIZE of " + i, x.about(i, 1), 40 - i);
            due("WEIGHT of " + i, x.about(i, 2), 200 - i);
            due("WORTH of " + i, x.about(i, 3), 1000 - i);
        }
    }

    static void waitsAndIsNotPressed() {
        HoldSlips x = ship(1, 20);
        x.bale(0, 10, 20, 30);
        due("level", x.about(0, 4), 0);
        none("HOLDER", x.about(0, 7));
        none("SIDE", x.about(0, 8));
        due("none lies", x.count(2), 0);
        due("all are FREE", x.tell(0, 4), 20);
    }

    static void isNoneWhenThereAreTwelve() {
        HoldSlips x = ship(1, 20);
        for (int i = 0; i < 12; i++) {
            x.bale(0, 1, 1, 1);
        }
        String before = picture(x);
        none("a 13th", x.bale(0, 1, 1, 1));
        unchanged(x, before);
        x.lade(3, 0, 0);
        none("one that lies counts", x.bale(0, 1, 1, 1));
        passYear(x, false);
        due("the next YEAR's first", x.bale(0, 2, 3, 4), 0);
        due("its level", x.about(0, 4), 0);
        due("BALES", x.count(1), 1);
    }

    static void isNoneWithoutSuchAnOwner() {
        HoldSlips x = ship(2, 20);
        for (int owner : new int[] {-1, 2, 8, LEAST, MOST}) {
            none("OWNER " + owner, x.bale(owner, 1, 1, 1));
        }
        due("none came", x.count(1), 0);
    }

    static void takesTheLeastAndTheGreatest() {
        HoldSlips x = ship(1, 20);
        due("the least", x.bale(0, 1, 1, 1), 0);
        due("the greatest SIZE", x.bale(0, 40, 1, 1), 1);
        due("the greatest WEIGHT", x.bale(0, 1, 200, 1), 2);
        due("the greatest WORTH", x.bale(0, 1, 1, 1000), 3);
    }

    static void isNoneForOtherNumbers() {
        HoldSlips x = ship(1, 20);
        for (int size : new int[] {0, -1, 41, LEAST, MOST}) {
            none("SIZE " + size, x.bale(0, size, 1, 1));
        }
        for (int weight : new int[] {0, -1, 201, LEAST, MOST}) {
            none("WEIGHT " + weight, x.bale(0, 1, weight, 1));
        }
        for (int worth : new int[] {0, -1, 1001, LEAST, MOST}) {
            none("WORTH " + worth, x.bale(0, 1, 1, worth));
        }
        due("none came", x.count(1), 0);
        due("the first", x.bale(0, 1, 1, 1), 0);
    }

    static void isNoneWhenTheShipSailed() {
        HoldSlips x = ship(1, 20);
        x.sail();
        String before = picture(x);
        none("bale at sea", x.bale(0, 1, 1, 1));
        unchanged(x, before);
    }

    static void needsNoSlips() {
        HoldSlips x = new HoldSlips();
        x.citizen(0, false);
        due("bale", x.bale(0, 40, 200, 1000), 0);
    }
}
