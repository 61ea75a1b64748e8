/** Promise by promise: ordinary inputs, the edges that the document names, wrong inputs. */
public final class PromisesTest {
    private static final int FAR = -1000000000;
    private static int wrong = 0;

    public static void main(String[] args) {
        newObject();
        tape();
        decreeAndFault();
        manyLinesAndTests();
        shares();
        citizens();
        rules();
        firstRules();
        giving();
        selling();
        bales();
        pressing();
        lading();
        bestOfAll();
        bestInBalance();
        bestAtHand();
        sailing();
        boards();
        loans();
        endOfYear();
        lostYear();
        rents();
        lastYear();
        images();
        imagesHoldAll();
        imagesHoldEveryAnswer();
        System.out.println(wrong == 0 ? "all promises hold" : wrong + " answers are not as due");
        if (wrong != 0) {
            System.exit(1);
        }
    }

    private static void due(String what, int got, int want) {
        if (got != want) {
            wrong++;
            System.out.println(what + " answered " + got + ", due is " + want);
        }
    }

    private static void yes(String what, boolean got) {
        due(what, got ? 1 : 0, 1);
    }

    private static void no(String what, boolean got) {
        due(what, got ? 1 : 0, 0);
    }

    /** Feeds the text, cuts the tape behind it, and takes it as a decree. */
    private static int decree(HoldSlips x, String text) {
        feedText(x, text);
        return x.decree();
    }

    private static void feedText(HoldSlips x, String text) {
        for (int at = 0; at < text.length(); at += 20) {
            int[] n = new int[5];
            for (int i = 0; i < 20; i++) {
                n[i / 4] = n[i / 4] << 8 | (at + i < text.length() ? text.charAt(at + i) & 255 : 0);
            }
            x.feed(n[0], n[1], n[2], n[3], n[4]);
        }
        due("end of '" + text + "'", x.end(text.length()), text.length());
    }

    private static void faulty(String text, int kind, int place) {
        HoldSlips x = new HoldSlips();
        due("decree '" + text + "'", decree(x, text), -1);
        due("fault 0 of '" + text + "'", x.fault(0), kind);
        due("fault 1 of '" + text + "'", x.fault(1), place);
    }

    private static void sound(String text, int lines) {
        HoldSlips x = new HoldSlips();
        due("decree '" + text + "'", decree(x, text), lines);
        due("fault 0 of '" + text + "'", x.fault(0), 0);
        due("fault 1 of '" + text + "'", x.fault(1), -1);
        due("LINES of '" + text + "'", x.count(6), lines);
    }

    /** Citizens of rank 0, 1, .. with equal shares, and h slips given. */
    private static HoldSlips ship(int citizens, int h) {
        HoldSlips x = new HoldSlips();
        for (int i = 0; i < citizens; i++) {
            x.citizen(i, i == 1);
        }
        decree(x, "share 1;");
        yes("give " + h, x.give(h));
        return x;
    }

    private static void newObject() {
        HoldSlips x = new HoldSlips();
        due("NONE", HoldSlips.NONE, -1);
        for (int what = 0; what <= 9; what++) {
            due("new count " + what, x.count(what), 0);
        }
        due("count -1", x.count(-1), FAR);
        due("count 10", x.count(10), FAR);
        due("new tell", x.tell(0, 0), FAR);
        due("new about", x.about(0, 0), -1);
        due("new book", x.book(0, 0), -1);
        due("new fault 0", x.fault(0), 0);
        due("new fault 1", x.fault(1), -1);
        due("new bestSide", x.bestSide(0), -1);
        due("new ladeBest", x.ladeBest(), -1);
        due("new ends", x.ends(false), -1);
        no("give without citizens", x.give(1));
        for (int k = -1; k <= 3; k++) {
            no("new again " + k, x.again(k));
        }
        due("new citizen", x.citizen(0, false), 0);
        due("no decree, share", x.tell(0, 2), 0);
        no("no decree, give", x.give(10));
    }

    private static void tape() {
        HoldSlips x = new HoldSlips();
        due("end 0 of nothing", x.end(0), 0);
        due("end 1 of nothing", x.end(1), -1);
        for (int i = 1; i <= 20; i++) {
            due("feed " + i, x.feed(-1, 0, 1, 2, 3), 20 * i);
        }
        due("feed beyond 400", x.feed(0, 0, 0, 0, 0), -1);
        due("nothing came", x.end(401), -1);
        due("end 400", x.end(400), 400);
        due("end -1", x.end(-1), -1);
        due("end least int", x.end(Integer.MIN_VALUE), -1);
        due("end 381", x.end(381), 381);
        due("feed to 401", x.feed(0, 0, 0, 0, 0), -1);
        due("end 380", x.end(380), 380);
        due("feed to 400", x.feed(0, 0, 0, 0, 0), 400);
        due("decree of rubbish", x.decree(), -1);
        due("first byte", x.fault(1), 0);
        due("the tape is empty then", x.end(1), -1);
        // "none", ";   ", "none", ";   ", blanks: the highest byte of each number comes first
        due("feed text", x.feed(0x6E6F6E65, 0x3B202020, 0x6E6F6E65, 0x3B202020, 0x0A0A0A20), 20);
        due("decree", x.decree(), 2);
        due("empty again", x.end(1), -1);
    }

    private static void decreeAndFault() {
        sound("", 0);
        sound("  \n ", 0);
        sound("none;", 1);
        sound("share 1;plus 22;none;", 3);
        sound("share999;plus0;", 2);
        sound("\nif widow:none ;\nif not rank<3and year>0 and not slips=17 and lost=0:share\n5;", 2);
        faulty("share", 1, 5);
        faulty("share  ", 1, 7);
        faulty("share 5", 1, 7);
        faulty("none", 1, 4);
        faulty("if", 1, 2);
        faulty("if not", 1, 6);
        faulty("if rank <", 1, 9);
        faulty("none;if widow:", 1, 14);
        faulty("none; x", 1, 6);
        faulty("none; None;", 1, 6);
        faulty("none;\tnone;", 1, 5);
        faulty("nonenone;", 1, 0);
        faulty("none;;", 1, 5);
        faulty("none 1;", 1, 5);
        faulty("share 1000;", 1, 6);
        faulty("share 0001;", 1, 6);
        faulty("share 1 2;", 1, 8);
        faulty("share -1;", 1, 6);
        faulty("share;", 1, 5);
        faulty("plus none;", 1, 5);
        faulty("5;", 1, 0);
        faulty(":none;", 1, 0);
        faulty("not widow:none;", 1, 0);
        faulty("if:none;", 1, 2);
        faulty("if none;", 1, 3);
        faulty("if widow none;", 1, 9);
        faulty("if widow;", 1, 8);
        faulty("if widow=1:none;", 1, 8);
        faulty("if rank:none;", 1, 7);
        faulty("if rank 3:none;", 1, 8);
        faulty("if rank<:none;", 1, 8);
        faulty("if rank<=3:none;", 1, 8);
        faulty("if rank<3333:none;", 1, 8);
        faulty("if not not widow:none;", 1, 7);
        faulty("if widow and:none;", 1, 12);
        faulty("if widow and if widow:none;", 1, 13);
        faulty("if widow:if widow:none;", 1, 9);
        faulty("if widows:none;", 1, 3);
        faulty("if wido:none;", 1, 3);
        faulty("if widow andnot widow:none;", 1, 9);
        faulty("none;" + (char) 0, 1, 5);
        faulty("none;" + (char) 187, 1, 5);
        faulty("non" + (char) 229, 1, 0);

        bytesBehindTheEnd("nonesuch;", 4, 4);
        bytesBehindTheEnd("share 123;", 7, 7);
        bytesBehindTheEnd("if rank<1234:none;", 9, 9);
        bytesBehindTheEnd("none;widow", 6, 5);
        faulty("none;".repeat(79) + " none", 1, 400);
        faulty("none;".repeat(79) + "plus5", 1, 400);

        HoldSlips x = new HoldSlips();
        x.citizen(0, false);
        decree(x, "share 4;");
        due("a faulty decree", decree(x, "share 9;share"), -1);
        due("its place", x.fault(1), 13);
        due("the old decree stays", x.tell(0, 2), 4);
        due("its lines stay", x.count(6), 1);
        due("fault 2", x.fault(2), -1);
        due("fault -1", x.fault(-1), -1);
        due("a sound one", decree(x, "share 8; plus 1;"), 2);
        due("fault is gone", x.fault(0), 0);
        due("place is gone", x.fault(1), -1);
        due("the new decree", x.tell(0, 2), 9);
        due("an empty decree", x.decree(), 0);
        due("share by none", x.tell(0, 2), 0);
    }

    private static void bytesBehindTheEnd(String text, int end, int place) {
        HoldSlips x = new HoldSlips();
        feedText(x, text);
        x.end(end);
        due("decree '" + text + "' to " + end, x.decree(), -1);
        due("fault of '" + text + "' to " + end, x.fault(0), 1);
        due("place in '" + text + "' to " + end, x.fault(1), place);
    }

    private static void manyLinesAndTests() {
        HoldSlips x = new HoldSlips();
        due("17 lines", decree(x, "none;".repeat(17)), -1);
        due("one line after them", decree(x, "none;"), 1);
        due("no fault is left", x.fault(0), 0);

        String sixteen = "none;".repeat(16);
        sound(sixteen, 16);
        sound("none;".repeat(15) + "if widow and widow and widow and widow:none;", 16);
        faulty(sixteen + "none;", 3, 80);
        faulty(sixteen + "  if widow:none;", 3, 82);
        faulty("none;".repeat(80), 3, 80);
        faulty(sixteen + "none", 1, 84);
        faulty(sixteen + "none;none;!", 1, 90);
        faulty(sixteen + "if lost=1 and lost=1 and lost=1 and lost=1 and lost=1:none;", 3, 80);
        String four = "if widow and widow and widow and widow";
        sound(four + ":none;", 1);
        faulty(four + " and widow:none;", 3, 43);
        faulty(four + " and not widow:none;", 3, 43);
        faulty(four + " and lost=1 and widow:none;" + four + " and widow:none;", 3, 43);
        faulty(four + " and widow:none;" + sixteen, 3, 43);
        faulty(four + " and widow none;", 1, 49);
        faulty(four + " and:none;", 1, 42);
    }

    private static void shares() {
        HoldSlips x = new HoldSlips();
        x.citizen(3, true);
        x.citizen(3, false);
        x.citizen(4, false);
        x.citizen(2, true);
        decree(x, "share 5; if rank<3:plus 7; if rank=3 and widow: share 20; if not widow:plus 1; if rank>3:none; plus 100;");
        due("share 0", x.tell(0, 2), 120);
        due("share 1", x.tell(1, 2), 106);
        due("share 2", x.tell(2, 2), 0);
        due("share 3", x.tell(3, 2), 112);
        decree(x, "plus 3; if not rank<3 and not rank>3 and not widow: share 0; plus 2;");
        due("plus from 0", x.tell(0, 2), 5);
        due("share 0 goes on", x.tell(1, 2), 2);
        decree(x, "if slips>0: share 7; if slips=0: share 1; if year=1: plus 10; if lost>0: plus 100;");
        due("before any slips", x.tell(0, 2), 1);
        yes("give", x.give(2));
        due("slips given just now", x.tell(0, 2), 7);
        due("none given to 2", x.tell(2, 2), 1);
        yes("sell", x.sell(0, 2, 1, 0));
        due("sold ones were given", x.tell(0, 2), 7);
        due("bought ones were not", x.tell(2, 2), 1);
        yes("sail", x.sail());
        due("ends lost", x.ends(true), 1);
        due("year 1, lost 1, given 1", x.tell(0, 2), 117);
        due("year 1, lost 1, given none", x.tell(3, 2), 111);
        due("a newcomer", x.citizen(0, false), 4);
        due("was given none", x.tell(4, 2), 111);
        yes("sail", x.sail());
        due("ends not lost", x.ends(false), 2);
        due("year 2, still given 1 the last time", x.tell(0, 2), 107);
    }

    private static void citizens() {
        HoldSlips x = new HoldSlips();
        due("rank -1", x.citizen(-1, false), -1);
        due("rank 10", x.citizen(10, true), -1);
        for (int i = 0; i < 8; i++) {
            due("citizen " + i, x.citizen(9 - i, i % 2 == 0), i);
        }
        due("a ninth", x.citizen(0, false), -1);
        due("how many", x.count(0), 8);
        for (int i = 0; i < 8; i++) {
            due("rank of " + i, x.tell(i, 0), 9 - i);
            due("widow " + i, x.tell(i, 1), i % 2 == 0 ? 1 : 0);
            for (int what = 2; what <= 7; what++) {
                due("tell " + i + " " + what, x.tell(i, what), 0);
            }
        }
        due("tell -1", x.tell(-1, 0), FAR);
        due("tell 8", x.tell(8, 0), FAR);
        due("what -1", x.tell(0, -1), FAR);
        due("what 8", x.tell(0, 8), FAR);
        yes("sail", x.sail());
        HoldSlips y = new HoldSlips();
        yes("sail", y.sail());
        due("a citizen as the ship is out", y.citizen(1, true), 0);
    }

    private static void rules() {
        HoldSlips x = new HoldSlips();
        int[] most = {2400, 2400, 12000, 9};
        for (int what = 0; what < 4; what++) {
            yes("rule " + what + " 0", x.rule(what, 0));
            yes("rule " + what + " most", x.rule(what, most[what]));
            no("rule " + what + " beyond", x.rule(what, most[what] + 1));
            no("rule " + what + " -1", x.rule(what, -1));
        }
        no("rule -1", x.rule(-1, 0));
        no("rule 4", x.rule(4, 0));
        yes("sail", x.sail());
        yes("rule at sea", x.rule(3, 2));
    }

    private static void giving() {
        HoldSlips x = new HoldSlips();
        x.citizen(1, false);
        x.citizen(1, false);
        x.citizen(1, false);
        x.citizen(5, false);
        decree(x, "share 3; if rank=5: share 2;");
        no("give 0", x.give(0));
        no("give 401", x.give(401));
        no("give -5", x.give(-5));
        x.image(0);
        // 10 * 3 / 11: 2 rest 8 each; 10 * 2 / 11: 1 rest 9: three are left
        yes("give 10", x.give(10));
        due("slips 0", x.tell(0, 3), 3);
        due("slips 1", x.tell(1, 3), 3);
        due("slips 2", x.tell(2, 3), 2);
        due("slips 3", x.tell(3, 3), 2);
        due("free 3", x.tell(3, 4), 2);
        no("give again", x.give(10));
        x.again(0);
        yes("give 1", x.give(1));
        no("once a year, be it one", x.give(1));
        due("the least of the greatest rests", x.tell(0, 3), 1);
        due("not the one of a lesser rest", x.tell(3, 3), 0);
        x.again(0);
        yes("give 400", x.give(400));
        due("slips 0 of 400", x.tell(0, 3), 109);
        due("slips 2 of 400", x.tell(2, 3), 109);
        due("slips 3 of 400", x.tell(3, 3), 73);
        x.again(0);
        yes("sail", x.sail());
        no("give at sea", x.give(10));
        x.ends(false);
        decree(x, "none;");
        no("give with shares of 0", x.give(10));
        decree(x, "share 1;");
        yes("that was no giving", x.give(4));
        due("one each", x.tell(3, 3), 1);

        HoldSlips y = new HoldSlips();
        for (int i = 0; i < 8; i++) {
            y.citizen(i, false);
        }
        decree(y, "share 999;" + "plus 999;".repeat(15));
        due("greatest share", y.tell(7, 2), 15984);
        yes("give 399", y.give(399));
        due("first", y.tell(0, 3), 50);
        due("seventh", y.tell(6, 3), 50);
        due("eighth", y.tell(7, 3), 49);
    }

    private static void selling() {
        HoldSlips x = ship(2, 20);
        no("no such seller", x.sell(2, 0, 1, 1));
        no("no such buyer", x.sell(0, -1, 1, 1));
        no("one", x.sell(1, 1, 1, 1));
        no("n 0", x.sell(0, 1, 0, 1));
        no("n -1", x.sell(0, 1, -1, 1));
        no("n 11", x.sell(0, 1, 11, 1));
        no("sum -1", x.sell(0, 1, 1, -1));
        no("sum 10001", x.sell(0, 1, 1, 10001));
        yes("sum 10000", x.sell(0, 1, 2, 10000));
        yes("sum 0", x.sell(1, 0, 1, 0));
        due("seller's slips", x.tell(0, 3), 9);
        due("buyer's slips", x.tell(1, 3), 11);
        due("seller's silver", x.tell(0, 5), 10000);
        due("buyer's silver", x.tell(1, 5), -10000);
        x.bale(1, 6, 1, 1);
        yes("lade", x.lade(0, 0, 0));
        no("more than are free", x.sell(0, 1, 4, 0));
        yes("all that are free", x.sell(0, 1, 3, 0));
        due("slips that stay", x.tell(0, 3), 6);
        due("none free", x.tell(0, 4), 0);
        due("a newcomer", x.citizen(0, false), 2);
        yes("may buy", x.sell(1, 2, 14, 5));
        due("has them", x.tell(2, 4), 14);
        yes("sail", x.sail());
        no("at sea", x.sell(2, 1, 1, 1));
    }

    private static void bales() {
        HoldSlips x = new HoldSlips();
        due("no owner", x.bale(0, 1, 1, 1), -1);
        x.citizen(0, false);
        due("owner -1", x.bale(-1, 1, 1, 1), -1);
        due("size 0", x.bale(0, 0, 1, 1), -1);
        due("size 41", x.bale(0, 41, 1, 1), -1);
        due("weight 0", x.bale(0, 1, 0, 1), -1);
        due("weight 201", x.bale(0, 1, 201, 1), -1);
        due("worth 0", x.bale(0, 1, 1, 0), -1);
        due("worth 1001", x.bale(0, 1, 1, 1001), -1);
        due("none came", x.count(1), 0);
        for (int i = 0; i < 12; i++) {
            due("bale " + i, x.bale(0, 40 - i, 200 - i, 1000 - i), i);
        }
        due("a 13th", x.bale(0, 1, 1, 1), -1);
        due("how many", x.count(1), 12);
        due("none lies", x.count(2), 0);
        int[] third = {0, 38, 198, 998, 0, 38, 998, -1, -1};
        for (int what = 0; what < 9; what++) {
            due("about 2 " + what, x.about(2, what), third[what]);
        }
        due("about -1", x.about(-1, 0), -1);
        due("about 12", x.about(12, 0), -1);
        due("what -1", x.about(0, -1), -1);
        due("what 9", x.about(0, 9), -1);
        yes("sail", x.sail());
        x.ends(false);
        due("gone with the year", x.count(1), 0);
        due("nothing about it", x.about(0, 0), -1);
        due("the next year's first", x.bale(0, 1, 1, 1), 0);
        yes("sail", x.sail());
        due("bale at sea", x.bale(0, 1, 1, 1), -1);
    }

    private static void firstRules() {
        HoldSlips x = ship(1, 400);
        for (int i = 0; i < 5; i++) {
            x.bale(0, 1, 200, 200);
            x.lade(i, 0, i % 2);
        }
        x.bale(0, 1, 100, 1);
        x.bale(0, 1, 1, 1);
        no("tilt 200 of 100", x.sail());
        x.unlade(4);
        x.lade(5, 0, 0);
        yes("tilt 100 of 100", tries(x));
        x.lade(6, 0, 0);
        no("tilt 101 of 100", tries(x));
        x.rule(0, 2400);
        x.unlade(5);
        x.lade(4, 0, 0);
        no("weight 1001 of 1000", tries(x));
        x.unlade(6);
        yes("weight 1000 of 1000", tries(x));
        due("value 1000 of a permit of 1000", x.board(-1, 0, 0, 2), 0);
        x.lade(6, 0, 0);
        due("value 1001", x.board(-1, 0, 0, 2), 1);
    }

    /** Whether the ship would sail; it stays. */
    private static boolean tries(HoldSlips x) {
        x.image(2);
        boolean sails = x.sail();
        x.again(2);
        return sails;
    }

    private static void pressing() {
        HoldSlips x = ship(1, 100);
        x.bale(0, 39, 10, 999);
        int[] rooms = {39, 36, 32, 28};
        int[] values = {999, 950, 900, 850};
        for (int level = 0; level <= 3; level++) {
            yes("press " + level, x.press(0, level));
            due("level", x.about(0, 4), level);
            due("room " + level, x.about(0, 5), rooms[level]);
            due("value " + level, x.about(0, 6), values[level]);
            due("size stays", x.about(0, 1), 39);
            due("worth stays", x.about(0, 3), 999);
        }
        no("press 4", x.press(0, 4));
        no("press -1", x.press(0, -1));
        no("no such bale", x.press(1, 1));
        no("bale -1", x.press(-1, 1));
        yes("back to 1", x.press(0, 1));
        due("room 1", x.about(0, 5), 36);
        yes("lade", x.lade(0, 0, 1));
        no("press as it lies", x.press(0, 2));
        yes("unlade", x.unlade(0));
        yes("press as it waits again", x.press(0, 2));
        x.bale(0, 3, 1, 6);
        yes("press a small one", x.press(1, 3));
        due("its room", x.about(1, 5), 3);
        due("its value", x.about(1, 6), 6);
        yes("sail", x.sail());
        no("press at sea", x.press(0, 1));
        x.ends(false);
        x.bale(0, 10, 1, 100);
        due("next year's bale is not pressed", x.about(0, 4), 0);
        due("its room", x.about(0, 5), 10);
    }

    private static void lading() {
        HoldSlips x = ship(2, 20);
        x.bale(0, 10, 70, 5);
        x.bale(0, 4, 30, 5);
        x.bale(1, 7, 11, 5);
        no("no such bale", x.lade(3, 0, 0));
        no("bale -1", x.lade(-1, 0, 0));
        no("no such holder", x.lade(0, 2, 0));
        no("holder -1", x.lade(0, -1, 0));
        no("side 2", x.lade(0, 0, 2));
        no("side -1", x.lade(0, 0, -1));
        yes("all slips of 0", x.lade(0, 0, 0));
        no("it lies", x.lade(0, 1, 1));
        no("none free", x.lade(1, 0, 0));
        yes("on another's", x.lade(1, 1, 1));
        no("not so many free", x.lade(2, 1, 0));
        due("holder", x.about(1, 7), 1);
        due("side", x.about(1, 8), 1);
        due("slips of 1", x.tell(1, 3), 10);
        due("free of 1", x.tell(1, 4), 6);
        yes("pressed by 1 it has 7", x.press(2, 1));
        no("still not so many", x.lade(2, 1, 0));
        yes("pressed by 2 it has 6", x.press(2, 2));
        yes("now it fits", x.lade(2, 1, 0));
        due("three lie", x.count(2), 3);
        due("tilt", x.count(7), 51);
        due("weight", x.count(8), 111);
        no("unlade 3", x.unlade(3));
        no("unlade -1", x.unlade(-1));
        yes("unlade 0", x.unlade(0));
        no("it waits", x.unlade(0));
        due("no holder", x.about(0, 7), -1);
        due("no side", x.about(0, 8), -1);
        due("free again", x.tell(0, 4), 10);
        due("tilt the other way", x.count(7), -19);
        yes("sail", x.sail());
        no("lade at sea", x.lade(0, 0, 0));
        no("unlade at sea", x.unlade(1));
    }

    private static void row(HoldSlips x, String what, int... sides) {
        for (int i = 0; i < sides.length; i++) {
            due(what + ", bale " + i, x.bestSide(i), sides[i]);
        }
    }

    private static void bestOfAll() {
        HoldSlips x = ship(2, 20);
        due("of no bales", x.best(), 0);
        due("no such bale", x.bestSide(0), -1);
        due("none to lay", x.ladeBest(), 0);
        x.bale(0, 10, 10, 50);
        x.bale(0, 5, 10, 50);
        x.bale(0, 5, 10, 49);
        due("two of 50 and 49", x.best(), 99);
        row(x, "most value", 2, 0, 0);
        x.press(0, 3);
        due("pressed", x.best(), 99);
        x.press(0, 0);
        x.bale(1, 10, 10, 30);
        x.bale(1, 9, 10, 30);
        due("fewest slips", x.best(), 129);
        row(x, "fewest slips", 2, 0, 0, 2, 0);
        x.bale(1, 9, 10, 30);
        due("the least row", x.best(), 129);
        row(x, "the least row", 2, 0, 0, 2, 0, 2);
        due("laid", x.ladeBest(), 3);
        due("beside what lies", x.best(), 0);
        row(x, "beside what lies", 2, 2, 2, 2, 2, 2);
        due("not on another's slips", x.tell(1, 4), 1);
        x.unlade(4);
        due("what lies has no part", x.best(), 30);
        for (int i = 6; i < 12; i++) {
            due("bale " + i, x.bale(1, 1, 1, 1), i);
        }
        due("ten wait", x.best(), -1);
        due("the one before is at hand", x.bestSide(4), 0);
        due("a later one waits on", x.bestSide(11), 2);
        due("no such bale", x.bestSide(12), -1);
        due("bale -1", x.bestSide(-1), -1);
        yes("lade", x.lade(11, 1, 0));
        due("nine wait", x.best(), 30);
        row(x, "nine wait", 2, 2, 2, 2, 0, 2, 2, 2, 2, 2, 2, 2);
        yes("sail", x.sail());
        due("at sea", x.best(), -1);
        due("still at hand", x.bestSide(4), 0);
        due("not done at sea", x.ladeBest(), -1);
        x.ends(false);
        due("gone with the year", x.ladeBest(), -1);
        x.bale(0, 1, 1, 1);
        due("gone with the year", x.bestSide(0), -1);
    }

    private static void bestInBalance() {
        HoldSlips x = ship(1, 400);
        x.rule(0, 0);
        x.bale(0, 1, 50, 10);
        x.bale(0, 1, 30, 10);
        x.bale(0, 1, 20, 10);
        x.bale(0, 1, 99, 500);
        due("in balance", x.best(), 30);
        row(x, "in balance", 0, 1, 1, 2);
        x.rule(1, 99);
        due("too heavy", x.best(), 0);
        row(x, "too heavy", 2, 2, 2, 2);
        x.rule(1, 100);
        due("just so heavy", x.best(), 30);
        yes("lade", x.lade(0, 0, 1));
        no("it tilts", x.sail());
        due("righted", x.best(), 20);
        row(x, "righted", 2, 0, 0, 2);
        yes("lade", x.lade(3, 0, 1));
        x.rule(1, 2400);
        due("nothing rights it", x.best(), -1);
        row(x, "the one before", 2, 0, 0, 2);
        x.rule(0, 99);
        due("just within the bound", x.best(), 20);
        row(x, "just within the bound", 2, 0, 0, 2);
        x.rule(0, 98);
        due("not without 1 and 2", x.best(), -1);
        x.unlade(0);
        x.rule(1, 98);
        due("what lies is too heavy", x.best(), -1);
        x.rule(1, 99);
        x.rule(0, 99);
        due("it bears what lies alone", x.best(), 0);
        row(x, "it bears what lies alone", 2, 2, 2, 2);
    }

    private static void bestAtHand() {
        HoldSlips x = ship(2, 20);
        x.bale(0, 4, 10, 40);
        x.bale(0, 4, 10, 30);
        x.bale(1, 10, 10, 30);
        due("all", x.best(), 100);
        row(x, "all", 0, 0, 0);
        yes("sell", x.sell(0, 1, 5, 0));
        yes("2 lies otherwise", x.lade(2, 1, 1));
        due("what can be laid now", x.ladeBest(), 1);
        due("bale 0 lies", x.about(0, 7), 0);
        due("bale 1 is left", x.about(1, 7), -1);
        due("bale 2 stays", x.about(2, 8), 1);
        yes("press", x.press(1, 3));
        yes("sell back", x.sell(1, 0, 1, 0));
        due("it is still at hand", x.ladeBest(), 0);
        yes("sell back", x.sell(1, 0, 1, 0));
        due("and is done", x.ladeBest(), 1);
        due("on its owner's slips", x.about(1, 7), 0);
        due("on its side", x.about(1, 8), 0);
        yes("unlade", x.unlade(0));
        due("done anew", x.ladeBest(), 1);
    }

    private static void sailing() {
        HoldSlips x = ship(1, 400);
        x.bale(0, 1, 101, 1);
        x.bale(0, 1, 1, 1);
        yes("lade", x.lade(0, 0, 1));
        no("tilt 101", x.sail());
        yes("lade", x.lade(1, 0, 0));
        due("tilt", x.count(7), -100);
        x.rule(1, 101);
        no("weight 102", x.sail());
        x.rule(1, 102);
        x.rule(0, 99);
        no("tilt 100 of 99", x.sail());
        x.rule(0, 100);
        due("open", x.count(5), 0);
        yes("it sails", x.sail());
        due("at sea", x.count(5), 1);
        no("it did", x.sail());
        due("ends", x.ends(false), 1);
        due("open again", x.count(5), 0);
        yes("it sails again", x.sail());
    }

    private static void boards() {
        HoldSlips x = ship(1, 400);
        due("nothing lies", x.board(-1, 5, 6, 0), 0);
        for (int i = 0; i < 12; i++) {
            x.bale(0, 1, 10, 100 + i);
        }
        for (int i = 0; i < 11; i++) {
            x.lade(i, 0, i % 2);
        }
        due("none opened, lesser", x.board(0, 3, 7, 0), 33);
        due("none opened, greater", x.board(0, 3, 7, 1), 77);
        due("0 and 10", x.board(1025, 3, 7, 0), 237);
        due("0 and 10, greater", x.board(1025, 3, 7, 1), 273);
        due("one that waits", x.board(2048, 3, 7, 1), 77);
        due("bits beyond", x.board(1 << 12 | 1 << 31, 3, 7, 0), 33);
        due("all", x.board(-1, 3, 7, 0), 1155);
        due("beyond 1000", x.board(-1, 0, 0, 2), 1);
        due("not beyond by the greater", x.board(0, 0, 1000, 2), 0);
        x.rule(2, 1155);
        due("not beyond 1155", x.board(-1, 0, 0, 2), 0);
        x.rule(2, 1154);
        due("beyond 1154", x.board(-1, 0, 0, 2), 1);
        due("least -1", x.board(0, -1, 5, 0), -1);
        due("least above", x.board(0, 6, 5, 0), -1);
        due("greatest 1001", x.board(0, 0, 1001, 0), -1);
        due("greatest 1000", x.board(0, 1000, 1000, 1), 11000);
        due("what 3", x.board(0, 0, 0, 3), -1);
        due("what -1", x.board(0, 0, 0, -1), -1);
        yes("sail", x.sail());
        due("at sea", x.board(1, 0, 0, 0), 100);
        x.ends(true);
        due("gone", x.board(1, 1, 1, 0), 0);
    }

    private static void loans() {
        HoldSlips x = ship(2, 10);
        due("no lender", x.loan(2, 0, 1, 1), -1);
        due("no borrower", x.loan(0, -1, 1, 1), -1);
        due("one", x.loan(1, 1, 1, 1), -1);
        due("sum 0", x.loan(0, 1, 0, 1), -1);
        due("sum 10001", x.loan(0, 1, 10001, 1), -1);
        due("percent -1", x.loan(0, 1, 1, -1), -1);
        due("percent 101", x.loan(0, 1, 1, 101), -1);
        due("none", x.count(3), 0);
        due("no silver went", x.tell(0, 5), 0);
        due("first", x.loan(0, 1, 10000, 100), 0);
        due("lender", x.tell(0, 5), -10000);
        due("borrower", x.tell(1, 5), 10000);
        due("second", x.loan(1, 0, 33, 10), 1);
        for (int i = 2; i < 20; i++) {
            due("loan " + i, x.loan(0, 1, 1, 0), i);
        }
        due("a 21st", x.loan(0, 1, 1, 0), -1);
        due("twenty", x.count(3), 20);
        due("lender", x.tell(0, 5), -9985);
        x.image(0);
        yes("sail", x.sail());
        due("at sea", x.loan(0, 1, 1, 0), -1);
        x.ends(false);
        // 20000 and 18 come back, 36 go
        due("lender in the end", x.tell(0, 5), 9997);
        due("borrower in the end", x.tell(1, 5), -9997);
        due("gone", x.count(3), 0);
        due("the first of the next year", x.loan(0, 1, 1, 0), 0);
        x.again(0);
        x.sail();
        x.ends(true);
        due("a lost ship ends loans", x.tell(0, 5), -9985);
        due("gone", x.count(3), 0);
        x.sail();
        x.ends(false);
        due("for good", x.tell(0, 5), -9985);
    }

    private static void bookRow(HoldSlips x, int year, int... row) {
        for (int what = 0; what < row.length; what++) {
            due("book " + year + " " + what, x.book(year, what), row[what]);
        }
    }

    private static HoldSlips laden() {
        HoldSlips x = ship(3, 90);
        x.bale(0, 20, 60, 333);
        x.bale(1, 10, 50, 77);
        x.bale(2, 30, 200, 1000);
        x.press(1, 2);
        yes("lade", x.lade(0, 1, 0));
        yes("lade", x.lade(1, 1, 1));
        return x;
    }

    private static void endOfYear() {
        HoldSlips x = laden();
        due("not sailed", x.ends(false), -1);
        yes("sail", x.sail());
        due("ends", x.ends(false), 1);
        // rooms 20 and 8: 20000 / 128 = 156; 333 * 156 / 100 = 519; 77 - 7 = 70, 70 * 156 / 100 = 109
        bookRow(x, 0, 90, 2, 403, 110, 156, 628, 61, 20, 0);
        due("owner 0", x.tell(0, 5), 519 - 51 - 20);
        due("owner 1, holder of both", x.tell(1, 5), 109 - 10 + 20);
        due("one whose bale waited", x.tell(2, 5), 0);
        due("returns 0", x.tell(0, 6), 519);
        due("returns 1", x.tell(1, 6), 109);
        due("rent 0", x.tell(0, 7), 0);
        due("rent 1", x.tell(1, 7), 20);
        due("church", x.count(9), 61);
        due("year", x.count(4), 1);
        due("bales", x.count(1), 0);
        due("tilt", x.count(7), 0);
        due("weight", x.count(8), 0);
        due("slips", x.tell(0, 3), 0);
        due("free", x.tell(1, 4), 0);
        yes("slips are given in the new year", x.give(9));
        x.bale(0, 3, 1, 100);
        yes("lade", x.lade(0, 0, 0));
        x.sail();
        due("ends", x.ends(false), 2);
        // 20000 / 103 = 194
        bookRow(x, 1, 9, 1, 100, 1, 194, 194, 19, 0, 0);
        due("silver adds up", x.tell(0, 5), 448 + 175);
        due("returns add up", x.tell(0, 6), 713);
        due("church adds up", x.count(9), 80);
        x.sail();
        x.ends(false);
        bookRow(x, 2, 0, 0, 0, 0, 200, 0, 0, 0, 0);
        due("book 3", x.book(3, 0), -1);
        due("book -1", x.book(-1, 0), -1);
        due("what 9", x.book(0, 9), -1);
        due("what -1", x.book(0, -1), -1);
    }

    private static void lostYear() {
        HoldSlips x = laden();
        yes("sail", x.sail());
        due("ends", x.ends(true), 1);
        bookRow(x, 0, 90, 2, 403, 110, 0, 0, 0, 0, 1);
        due("no silver", x.tell(0, 5), 0);
        due("no returns", x.tell(0, 6), 0);
        due("no rent", x.tell(1, 7), 0);
        due("no church", x.count(9), 0);
        due("no bales", x.count(1), 0);
        due("no slips", x.tell(0, 3), 0);
    }

    private static void rents() {
        HoldSlips x = laden();
        yes("sail", x.sail());
        x.rule(3, 9);
        x.image(0);
        x.ends(false);
        due("rent 9 for 20 slips", x.tell(1, 7), 180);
        due("the rest", x.tell(0, 5), 519 - 51 - 180);
        x.again(0);
        x.rule(3, 0);
        x.ends(false);
        due("rent 0", x.book(0, 7), 0);
        HoldSlips z = ship(1, 13);
        z.bale(0, 13, 1, 1000);
        z.lade(0, 0, 0);
        z.sail();
        z.ends(false);
        bookRow(z, 0, 13, 1, 1000, 1, 176, 1760, 176, 0, 0);
        HoldSlips y = ship(2, 80);
        y.rule(3, 9);
        y.bale(0, 40, 1, 11);
        yes("lade", y.lade(0, 1, 0));
        yes("sail", y.sail());
        y.ends(false);
        // 11 * 142 / 100 = 15, less 1
        due("at most what is left", y.tell(1, 7), 14);
        due("holder", y.tell(1, 5), 14);
        due("owner", y.tell(0, 5), 0);
        due("whole", y.tell(0, 6), 15);
        due("book", y.book(0, 7), 14);
    }

    private static void lastYear() {
        HoldSlips x = new HoldSlips();
        for (int year = 0; year < 199; year++) {
            yes("sail", x.sail());
            due("ends", x.ends(year % 2 == 0), year + 1);
        }
        due("book 198", x.book(198, 8), 1);
        due("book 197", x.book(197, 4), 200);
        due("book 199", x.book(199, 8), -1);
        yes("sail in 199", x.sail());
        due("199 does not end", x.ends(false), -1);
        due("lost or not", x.ends(true), -1);
        due("year", x.count(4), 199);
        due("at sea", x.count(5), 1);
    }

    private static void images() {
        HoldSlips x = laden();
        no("image -1", x.image(-1));
        no("image 3", x.image(3));
        no("again -1", x.again(-1));
        no("again 3", x.again(3));
        no("again without", x.again(1));
        yes("image 1", x.image(1));
        x.unlade(0);
        yes("image 2", x.image(2));
        x.sail();
        x.ends(true);
        x.citizen(9, true);
        yes("image 0", x.image(0));
        yes("again 1", x.again(1));
        due("both lie", x.count(2), 2);
        due("three citizens", x.count(0), 3);
        due("year", x.count(4), 0);
        due("no book", x.book(0, 0), -1);
        yes("again 2", x.again(2));
        due("one lies", x.count(2), 1);
        yes("again 0", x.again(0));
        due("year 1", x.count(4), 1);
        due("the book", x.book(0, 8), 1);
        due("four citizens", x.count(0), 4);
        x.citizen(8, false);
        yes("again 0 anew", x.again(0));
        due("still four", x.count(0), 4);
        yes("image 1 is another now", x.image(1));
        x.again(2);
        x.again(1);
        due("year 1", x.count(4), 1);
        HoldSlips y = new HoldSlips();
        y.image(0);
        y.citizen(5, true);
        y.image(1);
        y.again(0);
        y.citizen(2, false);
        y.again(1);
        due("rank of image 1's", y.tell(0, 0), 5);
        due("widow of image 1's", y.tell(0, 1), 1);
    }

    private static void imagesHoldAll() {
        HoldSlips x = new HoldSlips();
        x.citizen(1, false);
        x.citizen(2, false);
        decree(x, "share 2; if lost>0 and slips=6: plus 5;");
        x.give(12);
        x.sell(0, 1, 2, 7);
        x.bale(1, 2, 5, 50);
        x.best();
        x.loan(0, 1, 10, 10);
        x.rule(0, 4);
        decree(x, "share 1; none");
        feedText(x, "share 3;");
        x.image(0);
        x.decree();
        x.rule(0, 100);
        x.rule(3, 5);
        x.sell(1, 0, 8, 1);
        x.press(0, 3);
        x.citizen(3, true);
        x.loan(2, 0, 10, 10);
        x.ladeBest();
        x.best();
        x.sail();
        x.ends(true);
        x.give(7);
        yes("again", x.again(0));
        due("fault", x.fault(0), 1);
        due("place", x.fault(1), 13);
        due("citizens", x.count(0), 2);
        due("slips", x.tell(1, 3), 8);
        due("silver", x.tell(0, 5), -3);
        due("loans", x.count(3), 1);
        due("share", x.tell(0, 2), 2);
        due("level", x.about(0, 4), 0);
        due("best", x.bestSide(0), 0);
        due("laid", x.ladeBest(), 1);
        no("bound", x.sail());
        x.rule(0, 5);
        no("slips were given", x.give(5));
        yes("sail", x.sail());
        x.ends(true);
        due("lost and slips", x.tell(0, 2), 7);
        due("the tape", x.end(8), 8);
        due("decree", x.decree(), 1);
        due("share", x.tell(0, 2), 3);
        due("a citizen anew", x.citizen(0, false), 2);
        due("without silver", x.tell(2, 5), 0);
    }

    private static HoldSlips wealthy() {
        HoldSlips x = ship(4, 200);
        x.bale(0, 20, 60, 300);
        x.lade(0, 1, 0);
        x.sail();
        x.ends(false);
        x.sail();
        x.ends(true);
        x.give(240);
        x.rule(0, 70);
        x.rule(1, 130);
        x.rule(2, 500);
        x.rule(3, 4);
        x.bale(3, 11, 60, 401);
        x.bale(2, 12, 61, 402);
        x.bale(1, 13, 62, 403);
        x.press(0, 1);
        x.press(2, 3);
        x.lade(0, 2, 1);
        x.best();
        x.lade(1, 3, 0);
        x.loan(3, 1, 100, 7);
        x.loan(2, 0, 200, 9);
        x.sell(3, 0, 5, 77);
        decree(x, "share 1;!");
        feedText(x, "if widow and not rank=3 and year>1 and lost<4: share 17; plus 2;");
        return x;
    }

    /** Another ship in the same object, with as many of all as it bears. */
    private static void turnUpsideDown(HoldSlips x) {
        x.end(0);
        feedText(x, "none;".repeat(20));
        decree(x, "none;".repeat(3));
        decree(x, "share 8; if rank<2 or");
        for (int i = 0; i < 8; i++) {
            x.citizen(9, true);
        }
        x.sell(0, 3, 9, 5000);
        for (int what = 0; what < 4; what++) {
            x.rule(what, 9);
        }
        for (int i = 0; i < 3; i++) {
            x.unlade(i);
            x.press(i, 2);
        }
        x.rule(0, 2400);
        x.rule(1, 2400);
        x.best();
        x.lade(0, 1, 0);
        x.ladeBest();
        x.sail();
        x.ends(false);
        for (int i = 0; i < 12; i++) {
            x.bale(7, 1, 2, 3);
        }
        for (int i = 0; i < 20; i++) {
            x.loan(7, 6, 5, 4);
        }
        x.sail();
        x.ends(true);
        x.bale(6, 5, 4, 3);
    }

    private static String picture(HoldSlips x) {
        StringBuilder s = new StringBuilder();
        for (int what = 0; what <= 9; what++) {
            s.append(x.count(what)).append(' ');
        }
        for (int i = 0; i <= 4; i++) {
            for (int what = 0; what <= 8; what++) {
                s.append(i < 4 ? x.tell(i, what) : x.tell(i, 0)).append(' ');
                s.append(i < 3 ? x.about(i, what) : 0).append(' ');
                s.append(i < 3 ? x.book(i, what) : 0).append(' ');
            }
            s.append(x.bestSide(i)).append('\n');
        }
        s.append(x.fault(0)).append(' ').append(x.fault(1)).append(' ').append(x.board(1, 30, 40, 2));
        return s.toString();
    }

    /** What follows from the state that no call tells at once: tape, decree, rules, loans. */
    private static String future(HoldSlips x) {
        StringBuilder s = new StringBuilder();
        s.append(x.best()).append(x.give(9)).append(x.sail()).append(x.ends(false)).append('\n').append(picture(x));
        s.append(x.end(65)).append(' ').append(x.decree()).append(' ').append(x.tell(1, 2)).append(x.tell(3, 2));
        return s.toString();
    }

    private static void imagesHoldEveryAnswer() {
        String before = picture(wealthy());
        String after = future(wealthy());
        HoldSlips x = wealthy();
        yes("image", x.image(0));
        turnUpsideDown(x);
        yes("another picture", !before.equals(picture(x)));
        yes("again", x.again(0));
        yes("the picture of image 0", before.equals(picture(x)));
        HoldSlips y = wealthy();
        yes("image", y.image(1));
        turnUpsideDown(y);
        yes("image", y.image(2));
        yes("again", y.again(1));
        yes("what follows from image 1", after.equals(future(y)));
    }
}
