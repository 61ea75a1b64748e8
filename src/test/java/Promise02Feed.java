public final class Promise02Feed extends Checks {
    private static final int RUBBISH = 0x21212121;

    public static void main(String[] args) {
        runAll(Promise02Feed.class);
    }

    private static HoldSlips fed(int times) {
        HoldSlips x = new HoldSlips();
        for (int i = 1; i <= times; i++) {
            due("feed " + i, x.feed(0x20202020, 0x20202020, 0x20202020, 0x20202020, 0x20202020), 20 * i);
        }
        return x;
    }

    static void answersHowManyTheTapeHas() {
        HoldSlips x = fed(3);
        due("end(47)", x.end(47), 47);
        due("feed behind 47", x.feed(0, 0, 0, 0, 0), 67);
    }

    static void bringsOfEachNumberTheHighestByteFirst() {
        HoldSlips x = new HoldSlips();
        x.citizen(0, false);
        // "shar" "e 12" ";plu" "s 34" ";\n  "
        due("feed", x.feed(0x73686172, 0x65203132, 0x3B706C75, 0x73203334, 0x3B0A2020), 20);
        due("decree", x.decree(), 2);
        due("SHARE", x.tell(0, 2), 46);
    }

    static void bringsBytesAbove127() {
        for (int at = 0; at < 4; at++) {
            HoldSlips x = new HoldSlips();
            x.feed(0x20202020 | 0x80000000 >>> 8 * at, 0x20202020, 0x20202020, 0x20202020, 0x20202020);
            none("decree", x.decree());
            due("place of the byte 160", x.fault(1), at);
        }
    }

    static void bringsThemBehindTheTape() {
        HoldSlips x = fed(2);
        x.feed(0x20202021, 0x20202020, 0x20202020, 0x20202020, 0x20202020);
        none("decree", x.decree());
        due("place of the third four's last", x.fault(1), 43);
    }

    static void takesFourHundredBytes() {
        HoldSlips x = fed(20);
        due("end(400)", x.end(400), 400);
    }

    static void takesFourHundredBytesFromAnyLength() {
        HoldSlips x = fed(20);
        due("end(380)", x.end(380), 380);
        due("to 400", x.feed(0, 0, 0, 0, 0), 400);
    }

    static void isNoneBeyondFourHundred() {
        HoldSlips x = fed(20);
        none("to 420", x.feed(0, 0, 0, 0, 0));
        x.end(381);
        none("to 401", x.feed(0, 0, 0, 0, 0));
        x.end(399);
        none("to 419", x.feed(0, 0, 0, 0, 0));
    }

    static void bringsNothingWhenItIsNone() {
        for (int length : new int[] {381, 390, 399, 400}) {
            HoldSlips x = new HoldSlips();
            x.citizen(0, false);
            put(x, "share 5;" + " ".repeat(length - 8));
            none("feed behind " + length, x.feed(RUBBISH, RUBBISH, RUBBISH, RUBBISH, RUBBISH));
            none("end behind " + length, x.end(length + 1));
            due("decree of " + length, x.decree(), 1);
            due("SHARE", x.tell(0, 2), 5);
        }
    }

    static void beginsAnewBehindADecree() {
        HoldSlips x = fed(20);
        due("decree", x.decree(), 0);
        due("feed", x.feed(RUBBISH, 0, 0, 0, 0), 20);
        none("decree", x.decree());
        due("feed behind a FAULT", x.feed(0, 0, 0, 0, 0), 20);
    }

    static void worksAsTheShipIsAtSea() {
        HoldSlips x = new HoldSlips();
        x.sail();
        due("feed", x.feed(0, 0, 0, 0, 0), 20);
        x.ends(false);
        due("the tape stays from year to year", x.end(20), 20);
    }
}
