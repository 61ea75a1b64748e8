import java.util.Random;

/** Any call with any arguments in any state: none throws, none goes beyond what there may be (seeded). */
public final class WildCallsTest {
    private static final int RUNS = 200;
    private static final int CALLS = 2000;
    private static final int[] EDGES = {Integer.MIN_VALUE, Integer.MIN_VALUE + 1, -1000000000, -2, -1, 8, 9, 10, 11, 12,
        13, 19, 20, 40, 41, 100, 101, 198, 199, 200, 201, 400, 401, 1000, 1001, 2400, 10000, 10001, 12000,
        Integer.MAX_VALUE - 1, Integer.MAX_VALUE};
    private static final String[] WORDS = {"if ", "and ", "not ", "widow ", "rank", "year", "slips", "lost", "share ",
        "plus ", "none", "<", ">", "=", ":", ";", "1", "22", "333", "4444", " ", "\n", "x", "!", "none;", "share 7;",
        "if widow:plus 9;", "if slips>3 and lost=0:share 5;"};

    public static void main(String[] args) {
        for (int seed = 0; seed < RUNS; seed++) {
            Random random = new Random(seed);
            HoldSlips x = new HoldSlips();
            for (int i = 0; i < CALLS; i++) {
                call(x, random, random.nextInt(26));
                if (!isWithinLimits(x)) {
                    System.out.println("seed " + seed + ", call " + i + ": more than there may be");
                    System.exit(1);
                }
            }
        }
        System.out.println("no call threw");
    }

    private static int any(Random random) {
        switch (random.nextInt(8)) {
            case 0: return EDGES[random.nextInt(EDGES.length)];
            case 1: return random.nextInt();
            case 2: return random.nextInt(400);
            default: return random.nextInt(8);
        }
    }

    private static boolean isWithinLimits(HoldSlips x) {
        int year = x.count(4);
        return x.count(0) <= 8 && x.count(1) <= 12 && x.count(2) <= x.count(1) && x.count(3) <= 20 && x.count(6) <= 16
            && year <= 199 && x.book(year, 0) == -1 && Math.abs(x.count(7)) <= x.count(8) && x.count(8) <= 2400;
    }

    private static void text(HoldSlips x, Random random) {
        StringBuilder s = new StringBuilder();
        for (int i = random.nextInt(30); i > 0; i--) {
            s.append(WORDS[random.nextInt(WORDS.length)]);
        }
        for (int at = 0; at < s.length(); at += 20) {
            int[] n = new int[5];
            for (int i = 0; i < 20; i++) {
                n[i / 4] = n[i / 4] << 8 | (at + i < s.length() ? s.charAt(at + i) : ' ');
            }
            x.feed(n[0], n[1], n[2], n[3], n[4]);
        }
    }

    private static void call(HoldSlips x, Random r, int which) {
        switch (which) {
            case 0: x.feed(any(r), any(r), any(r), any(r), any(r)); break;
            case 1: text(x, r); break;
            case 2: x.end(any(r)); break;
            case 3: x.decree(); break;
            case 4: x.fault(any(r)); break;
            case 5: x.citizen(any(r), r.nextBoolean()); break;
            case 6: x.rule(any(r), any(r)); break;
            case 7: x.give(any(r)); break;
            case 8: x.sell(any(r), any(r), any(r), any(r)); break;
            case 9: x.bale(any(r), any(r), any(r), any(r)); break;
            case 10: x.press(any(r), any(r)); break;
            case 11: x.lade(any(r), any(r), any(r)); break;
            case 12: x.unlade(any(r)); break;
            case 13: x.best(); break;
            case 14: x.bestSide(any(r)); break;
            case 15: x.ladeBest(); break;
            case 16: x.sail(); break;
            case 17: x.board(any(r), any(r), any(r), any(r)); break;
            case 18: x.loan(any(r), any(r), any(r), any(r)); break;
            case 19: x.ends(r.nextBoolean()); break;
            case 20: x.tell(any(r), any(r)); break;
            case 21: x.about(any(r), any(r)); break;
            case 22: x.book(any(r), any(r)); break;
            case 23: x.count(any(r)); break;
            case 24: x.image(any(r)); break;
            default: x.again(any(r)); break;
        }
    }
}
