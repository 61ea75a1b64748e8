public final class Promise03End extends Checks {
    private static final String TEXT = "share 5;plus 3;none;";

    public static void main(String[] args) {
        runAll(Promise03End.class);
    }

    private static HoldSlips fed() {
        HoldSlips x = new HoldSlips();
        put(x, TEXT);
        return x;
    }

    static void keepsTheFirstBytesAlone() {
        HoldSlips x = fed();
        due("end(15)", x.end(15), 15);
        due("decree", x.decree(), 2);
        HoldSlips y = fed();
        due("end(14)", y.end(14), 14);
        none("decree", y.decree());
        due("place of the end", y.fault(1), 14);
    }

    static void keepsNothingByZero() {
        HoldSlips x = fed();
        due("end(0)", x.end(0), 0);
        due("decree of nothing", x.decree(), 0);
    }

    static void keepsAllByTheWholeLength() {
        HoldSlips x = fed();
        due("end(20)", x.end(20), 20);
        due("decree", x.decree(), 3);
    }

    static void isNoneBeyondTheTape() {
        HoldSlips x = fed();
        none("end(21)", x.end(21));
        none("end(400)", x.end(400));
        none("end(401)", x.end(401));
        none("end of the most", x.end(MOST));
        due("the tape stays", x.decree(), 3);
    }

    static void isNoneBelowZero() {
        HoldSlips x = fed();
        none("end(-1)", x.end(-1));
        none("end(-20)", x.end(-20));
        none("end of the least", x.end(LEAST));
        due("the tape stays", x.decree(), 3);
    }

    static void ofAnEmptyTapeIsZeroAlone() {
        HoldSlips x = new HoldSlips();
        due("end(0)", x.end(0), 0);
        none("end(1)", x.end(1));
        none("end(-1)", x.end(-1));
    }

    static void letsNothingComeBack() {
        HoldSlips x = fed();
        x.end(8);
        none("end(9)", x.end(9));
        none("end(20)", x.end(20));
        put(x, 8, "share 9;");
        due("decree", x.decree(), 2);
    }

    static void isNoneBehindADecree() {
        HoldSlips x = fed();
        x.decree();
        none("end(1)", x.end(1));
        due("end(0)", x.end(0), 0);
        put(x, "!");
        x.decree();
        none("end(1) behind a FAULT", x.end(1));
    }
}
