import java.util.ArrayList;
import java.util.List;
import java.util.Random;
import java.util.regex.Matcher;
import java.util.regex.Pattern;

/** Long seeded runs of calls on HoldSlips and on a slow second writing of the document. */
public final class ModelTest {
    private static final int RUNS = 600;
    private static final int CALLS = 512;
    private static int wrong = 0;

    public static void main(String[] args) {
        for (int seed = 0; seed < RUNS && wrong < 5; seed++) {
            new Run(seed).go();
        }
        for (int seed = 0; seed < 60 && wrong < 5; seed++) {
            new Run(100000 + seed).goYears();
        }
        System.out.println(wrong == 0 ? "model and class agree" : wrong + " runs differ");
        if (wrong != 0) {
            System.exit(1);
        }
    }

    private static final class Run {
        final Random random;
        final int seed;
        final HoldSlips real = new HoldSlips();
        final Model model = new Model();
        final List<String> said = new ArrayList<>();
        boolean broken = false;
        int calls = 0;

        Run(int seed) {
            this.seed = seed;
            this.random = new Random(seed);
        }

        void go() {
            int start = random.nextInt(9);
            for (int i = 0; i < start; i++) {
                citizen();
            }
            text(Texts.good(random));
            while (calls < CALLS && !broken) {
                act();
            }
        }

        /** Year upon year, to the last one. */
        void goYears() {
            citizen();
            citizen();
            text("share 1; if slips > 3 and lost > 2: plus 2;");
            for (int y = 0; y < 203 && calls < CALLS - 12 && !broken; y++) {
                if (y % 9 == 0) {
                    check("give 9", bit(real.give(9)), bit(model.give(9)));
                    bale();
                    check("best", real.best(), model.best());
                    check("ladeBest", real.ladeBest(), model.ladeBest());
                }
                check("sail", bit(real.sail()), bit(model.sail()));
                boolean lost = random.nextInt(4) == 0;
                check("ends " + lost, real.ends(lost), model.ends(lost));
            }
            for (int i = 0; i < 8; i++) {
                int year = 190 + random.nextInt(12);
                int what = random.nextInt(9);
                check("book " + year + " " + what, real.book(year, what), model.book(year, what));
            }
            check("count 4", real.count(4), model.count(4));
        }

        void check(String call, int got, int want) {
            calls++;
            said.add(call + " -> " + got);
            if (got != want && !broken) {
                broken = true;
                wrong++;
                System.out.println("seed " + seed + ": " + call + " answered " + got + ", model says " + want);
                for (String s : said.subList(Math.max(0, said.size() - 40), said.size())) {
                    System.out.println("    " + s);
                }
            }
        }

        static int bit(boolean b) {
            return b ? 1 : 0;
        }

        /** Mostly from least to greatest, sometimes just beside or far out. */
        int near(int least, int greatest) {
            switch (random.nextInt(24)) {
                case 0: return least - 1;
                case 1: return greatest + 1;
                case 2: return least;
                case 3: return greatest;
                case 4: return random.nextInt(5) == 0 ? random.nextInt() : least;
                default: return least + random.nextInt(greatest - least + 1);
            }
        }

        int who() {
            return near(0, Math.max(0, model.people.size() - 1));
        }

        int which() {
            return near(0, Math.max(0, model.bales.size() - 1));
        }

        void act() {
            int dice = random.nextInt(100);
            if (dice < 3) {
                text(Texts.any(random));
            } else if (dice < 5) {
                citizen();
            } else if (dice < 8) {
                rule();
            } else if (dice < 14) {
                int h = near(1, 400);
                check("give " + h, bit(real.give(h)), bit(model.give(h)));
            } else if (dice < 18) {
                sell();
            } else if (dice < 30) {
                bale();
            } else if (dice < 34) {
                int b = which();
                int l = near(0, 3);
                check("press " + b + " " + l, bit(real.press(b, l)), bit(model.press(b, l)));
            } else if (dice < 46) {
                int b = which();
                int h = who();
                int s = near(0, 1);
                check("lade " + b + " " + h + " " + s, bit(real.lade(b, h, s)), bit(model.lade(b, h, s)));
            } else if (dice < 50) {
                int b = which();
                check("unlade " + b, bit(real.unlade(b)), bit(model.unlade(b)));
            } else if (dice < 58) {
                best();
            } else if (dice < 61) {
                check("ladeBest", real.ladeBest(), model.ladeBest());
            } else if (dice < 64) {
                check("sail", bit(real.sail()), bit(model.sail()));
            } else if (dice < 68) {
                board();
            } else if (dice < 72) {
                loan();
            } else if (dice < 76) {
                boolean lost = random.nextInt(3) == 0;
                check("ends " + lost, real.ends(lost), model.ends(lost));
            } else if (dice < 79) {
                images();
            } else {
                ask();
            }
        }

        void citizen() {
            int rank = near(0, 9);
            boolean widow = random.nextBoolean();
            check("citizen " + rank + " " + widow, real.citizen(rank, widow), model.citizen(rank, widow));
        }

        void rule() {
            int what = near(0, 3);
            int[] most = {300, 2400, 12000, 9};
            int value = near(0, what >= 0 && what < 4 ? most[what] : 5);
            if (random.nextInt(6) == 0) {
                value = near(2399, 2400);
            }
            check("rule " + what + " " + value, bit(real.rule(what, value)), bit(model.rule(what, value)));
        }

        void sell() {
            int from = who();
            int to = who();
            int n = near(1, Math.max(1, model.free(from)));
            int sum = near(0, 10000);
            check("sell " + from + " " + to + " " + n + " " + sum,
                bit(real.sell(from, to, n, sum)), bit(model.sell(from, to, n, sum)));
        }

        void bale() {
            int owner = who();
            int size = near(1, 40);
            // Few sizes, weights and worths at times, so that equal ladings come up.
            int weight = random.nextInt(3) == 0 ? 20 + 10 * random.nextInt(3) : near(1, 200);
            int worth = random.nextInt(3) == 0 ? 20 + 20 * random.nextInt(3) : near(1, 1000);
            if (random.nextInt(3) == 0) {
                size = 1 + random.nextInt(3);
            }
            check("bale " + owner + " " + size + " " + weight + " " + worth,
                real.bale(owner, size, weight, worth), model.bale(owner, size, weight, worth));
        }

        void best() {
            check("best", real.best(), model.best());
            for (int i = -1; i <= model.bales.size() && calls < CALLS; i++) {
                check("bestSide " + i, real.bestSide(i), model.bestSide(i));
            }
        }

        void board() {
            int opened = random.nextInt(5) == 0 ? random.nextInt() : random.nextInt(4096);
            int least = near(0, 1000);
            int greatest = random.nextInt(3) == 0 ? near(0, 1000) : near(Math.min(1000, Math.max(0, least)), 1000);
            int what = near(0, 2);
            check("board " + opened + " " + least + " " + greatest + " " + what,
                real.board(opened, least, greatest, what), model.board(opened, least, greatest, what));
        }

        void loan() {
            int lender = who();
            int borrower = who();
            int sum = near(1, 10000);
            int percent = near(0, 100);
            check("loan " + lender + " " + borrower + " " + sum + " " + percent,
                real.loan(lender, borrower, sum, percent), model.loan(lender, borrower, sum, percent));
        }

        void images() {
            int k = near(0, 2);
            if (random.nextInt(3) > 0) {
                check("image " + k, bit(real.image(k)), bit(model.image(k)));
            } else {
                check("again " + k, bit(real.again(k)), bit(model.again(k)));
            }
        }

        void ask() {
            switch (random.nextInt(5)) {
                case 0: {
                    int c = who();
                    int w = near(0, 7);
                    check("tell " + c + " " + w, real.tell(c, w), model.tell(c, w));
                    break;
                }
                case 1: {
                    int b = which();
                    int w = near(0, 8);
                    check("about " + b + " " + w, real.about(b, w), model.about(b, w));
                    break;
                }
                case 2: {
                    int y = near(0, Math.max(0, model.year));
                    int w = near(0, 8);
                    check("book " + y + " " + w, real.book(y, w), model.book(y, w));
                    break;
                }
                case 3: {
                    int w = near(0, 9);
                    check("count " + w, real.count(w), model.count(w));
                    break;
                }
                default: {
                    int w = near(0, 1);
                    check("fault " + w, real.fault(w), model.fault(w));
                    break;
                }
            }
        }

        void text(String text) {
            int at = 0;
            while (at < text.length()) {
                int[] five = new int[5];
                for (int i = 0; i < 20; i++) {
                    int b = at + i < text.length() ? text.charAt(at + i) : random.nextInt(256);
                    five[i / 4] = five[i / 4] << 8 | b & 255;
                }
                check("feed '" + text.substring(at, Math.min(at + 20, text.length())) + "'",
                    real.feed(five[0], five[1], five[2], five[3], five[4]), model.feed(five));
                at += 20;
            }
            int n = random.nextInt(30) == 0 ? near(0, 400) : text.length();
            check("end " + n, real.end(n), model.end(n));
            if (random.nextInt(20) == 0) {
                return;
            }
            check("decree", real.decree(), model.decree());
            check("fault 0", real.fault(0), model.fault(0));
            check("fault 1", real.fault(1), model.fault(1));
        }
    }

    /** Texts that are decrees, and texts that almost are. */
    private static final class Texts {
        static final String[] PIECES = {"if", "and", "not", "widow", "rank", "year", "slips", "lost", "share",
            "plus", "none", ":", ";", "<", ">", "=", "1", "12", "999", "1000", " ", "\n", "x", "!", "\t", "A"};

        static String good(Random r) {
            StringBuilder s = new StringBuilder("share " + (1 + r.nextInt(9)) + ";");
            int lines = r.nextInt(r.nextInt(8) == 0 ? 20 : 6);
            for (int i = 0; i < lines; i++) {
                line(r, s);
            }
            return s.length() <= 400 ? s.toString() : "plus 3;";
        }

        static void line(Random r, StringBuilder s) {
            if (r.nextInt(3) > 0) {
                s.append("if ");
                int tests = 1 + r.nextInt(r.nextInt(6) == 0 ? 6 : 2);
                for (int t = 0; t < tests; t++) {
                    s.append(t > 0 ? " and " : "").append(r.nextInt(3) == 0 ? "not " : "");
                    if (r.nextInt(4) == 0) {
                        s.append("widow");
                    } else {
                        s.append(PIECES[4 + r.nextInt(4)]).append(gap(r)).append(PIECES[13 + r.nextInt(3)]);
                        s.append(gap(r)).append(r.nextInt(r.nextInt(3) == 0 ? 400 : 8));
                    }
                }
                s.append(gap(r)).append(':');
            }
            int kind = r.nextInt(5);
            s.append(kind == 0 ? "none" : kind < 3 ? "plus " + r.nextInt(30) : "share" + gap(r) + r.nextInt(999));
            s.append(gap(r)).append(';').append(gap(r));
        }

        static String gap(Random r) {
            return r.nextInt(3) > 0 ? "" : r.nextBoolean() ? " " : "\n ";
        }

        static String any(Random r) {
            String text = good(r);
            StringBuilder s = new StringBuilder(text);
            int changes = r.nextInt(3);
            for (int i = 0; i < changes; i++) {
                int at = r.nextInt(s.length() + 1);
                switch (r.nextInt(3)) {
                    case 0: s.insert(at, PIECES[r.nextInt(PIECES.length)]); break;
                    case 1: s.delete(at, Math.min(s.length(), at + 1 + r.nextInt(4))); break;
                    default: s.setLength(at); break;
                }
            }
            if (r.nextInt(12) == 0) {
                s.setLength(0);
                int n = r.nextInt(12);
                for (int i = 0; i < n; i++) {
                    s.append(PIECES[r.nextInt(PIECES.length)]);
                }
            }
            return s.length() <= 400 ? s.toString() : "none;";
        }
    }

    private static final class Person {
        int rank;
        boolean widow;
        int slips;
        int given;
        int silver;
        int returns;
        int rents;

        Person copy() {
            Person p = new Person();
            p.rank = rank;
            p.widow = widow;
            p.slips = slips;
            p.given = given;
            p.silver = silver;
            p.returns = returns;
            p.rents = rents;
            return p;
        }
    }

    private static final class Pack {
        int owner;
        int size;
        int weight;
        int worth;
        int level;
        int holder = -1;
        int side = -1;

        Pack copy() {
            Pack p = new Pack();
            p.owner = owner;
            p.size = size;
            p.weight = weight;
            p.worth = worth;
            p.level = level;
            p.holder = holder;
            p.side = side;
            return p;
        }

        int room() {
            return size - size * level / 10;
        }

        int value() {
            return worth - worth * level / 20;
        }

        boolean lies() {
            return holder >= 0;
        }
    }

    private static final class Model {
        static final int FAR = -1000000000;
        List<Person> people = new ArrayList<>();
        List<Pack> bales = new ArrayList<>();
        List<int[]> loans = new ArrayList<>();
        List<int[]> book = new ArrayList<>();
        List<List<String>> law = new ArrayList<>();
        List<Integer> bestRow = null;
        String tape = "";
        int[] rules = {100, 1000, 1000, 1};
        int fault = 0;
        int place = -1;
        int year = 0;
        boolean sailed = false;
        int given = 0;
        int lost = 0;
        int church = 0;
        final Model[] images = new Model[3];

        void take(Model o) {
            people = new ArrayList<>();
            for (Person p : o.people) {
                people.add(p.copy());
            }
            bales = new ArrayList<>();
            for (Pack p : o.bales) {
                bales.add(p.copy());
            }
            loans = new ArrayList<>(o.loans);
            book = new ArrayList<>(o.book);
            law = o.law;
            bestRow = o.bestRow;
            tape = o.tape;
            rules = o.rules.clone();
            fault = o.fault;
            place = o.place;
            year = o.year;
            sailed = o.sailed;
            given = o.given;
            lost = o.lost;
            church = o.church;
        }

        int feed(int[] five) {
            if (tape.length() > 380) {
                return -1;
            }
            StringBuilder s = new StringBuilder(tape);
            for (int n : five) {
                s.append((char) (n >>> 24)).append((char) (n >>> 16 & 255));
                s.append((char) (n >>> 8 & 255)).append((char) (n & 255));
            }
            tape = s.toString();
            return tape.length();
        }

        int end(int n) {
            if (n < 0 || n > tape.length()) {
                return -1;
            }
            tape = tape.substring(0, n);
            return n;
        }

        static final String TEST = "(?:not )?(?:widow |(?:rank |year |slips |lost )(?:< |> |= )# )";
        static final String LINE = "(?:if " + TEST + "(?:and " + TEST + ")*: )?(?:share # |plus # |none ); ";
        static final Pattern TEXT = Pattern.compile("(?:" + LINE + ")*");
        static final Pattern TOKEN = Pattern.compile("[a-z]+|[0-9]+|[:;<>=]");

        /** A row of tokens, each with a blank behind, is the beginning of a text if the match ran out of row. */
        static boolean goesOn(String row) {
            Matcher m = TEXT.matcher(row);
            return m.matches() || m.hitEnd();
        }

        int decree() {
            String text = tape;
            tape = "";
            List<String> tokens = new ArrayList<>();
            List<Integer> places = new ArrayList<>();
            StringBuilder row = new StringBuilder();
            int at = 0;
            Matcher m = TOKEN.matcher(text);
            while (true) {
                while (at < text.length() && (text.charAt(at) == ' ' || text.charAt(at) == '\n')) {
                    at++;
                }
                if (at == text.length()) {
                    break;
                }
                m.region(at, text.length());
                String token = m.lookingAt() ? m.group() : "?";
                if (token.matches("[0-9]{4,}")) {
                    token = "?";
                }
                row.append(token.matches("[0-9]+") ? "#" : token).append(' ');
                if (!goesOn(row.toString())) {
                    return fails(1, at);
                }
                tokens.add(token);
                places.add(at);
                at = m.end();
            }
            if (!TEXT.matcher(row).matches()) {
                return fails(1, text.length());
            }
            return lines(tokens, places);
        }

        int fails(int kind, int where) {
            fault = kind;
            place = where;
            return -1;
        }

        int lines(List<String> tokens, List<Integer> places) {
            List<List<String>> lines = new ArrayList<>();
            List<String> line = new ArrayList<>();
            int tests = 0;
            for (int i = 0; i < tokens.size(); i++) {
                String t = tokens.get(i);
                if (line.isEmpty()) {
                    tests = 0;
                    if (lines.size() == 16) {
                        return fails(3, places.get(i));
                    }
                }
                line.add(t);
                if (t.equals("if") || t.equals("and")) {
                    tests++;
                    if (tests == 5) {
                        return fails(3, places.get(i + 1));
                    }
                }
                if (t.equals(";")) {
                    lines.add(line);
                    line = new ArrayList<>();
                }
            }
            law = lines;
            fault = 0;
            place = -1;
            return lines.size();
        }

        int fault(int what) {
            return what == 0 ? fault : what == 1 ? place : -1;
        }

        int share(Person p) {
            int share = 0;
            for (List<String> line : law) {
                String whole = String.join(" ", line);
                String act = whole.substring(whole.indexOf(':') + 1).trim();
                if (whole.startsWith("if ")) {
                    boolean all = true;
                    for (String test : whole.substring(3, whole.indexOf(':')).trim().split(" and ")) {
                        all &= holds(p, test.trim());
                    }
                    if (!all) {
                        continue;
                    }
                }
                String[] parts = act.split(" ");
                if (parts[0].equals("none")) {
                    return 0;
                }
                int n = Integer.parseInt(parts[1]);
                share = parts[0].equals("share") ? n : share + n;
            }
            return share;
        }

        boolean holds(Person p, String test) {
            if (test.startsWith("not ")) {
                return !holds(p, test.substring(4));
            }
            if (test.equals("widow")) {
                return p.widow;
            }
            String[] t = test.split(" ");
            int told = t[0].equals("rank") ? p.rank : t[0].equals("year") ? year : t[0].equals("slips") ? p.given : lost;
            int n = Integer.parseInt(t[2]);
            return t[1].equals("<") ? told < n : t[1].equals(">") ? told > n : told == n;
        }

        int citizen(int rank, boolean widow) {
            if (people.size() == 8 || rank < 0 || rank > 9) {
                return -1;
            }
            Person p = new Person();
            p.rank = rank;
            p.widow = widow;
            people.add(p);
            return people.size() - 1;
        }

        boolean rule(int what, int value) {
            int[] most = {2400, 2400, 12000, 9};
            if (what < 0 || what > 3 || value < 0 || value > most[what]) {
                return false;
            }
            rules[what] = value;
            return true;
        }

        boolean give(int h) {
            long all = 0;
            for (Person p : people) {
                all += share(p);
            }
            if (sailed || given > 0 || h < 1 || h > 400 || all == 0) {
                return false;
            }
            List<Long> rests = new ArrayList<>();
            List<Integer> gets = new ArrayList<>();
            long left = h;
            for (Person p : people) {
                long part = (long) h * share(p);
                gets.add((int) (part / all));
                rests.add(part % all);
                left -= part / all;
            }
            List<Integer> order = new ArrayList<>();
            for (int i = 0; i < people.size(); i++) {
                order.add(i);
            }
            order.sort((x, y) -> rests.get(x).equals(rests.get(y)) ? x - y : Long.compare(rests.get(y), rests.get(x)));
            for (int i = 0; i < people.size(); i++) {
                int who = order.get(i);
                Person p = people.get(who);
                p.given = gets.get(who) + (i < left ? 1 : 0);
                p.slips = p.given;
            }
            given = h;
            return true;
        }

        boolean hasPerson(int i) {
            return i >= 0 && i < people.size();
        }

        boolean hasBale(int i) {
            return i >= 0 && i < bales.size();
        }

        int free(int who) {
            if (!hasPerson(who)) {
                return 0;
            }
            int free = people.get(who).slips;
            for (Pack p : bales) {
                if (p.holder == who) {
                    free -= p.room();
                }
            }
            return free;
        }

        boolean sell(int from, int to, int n, int sum) {
            if (sailed || !hasPerson(from) || !hasPerson(to) || from == to || n < 1 || n > free(from)
                || sum < 0 || sum > 10000) {
                return false;
            }
            people.get(from).slips -= n;
            people.get(to).slips += n;
            people.get(from).silver += sum;
            people.get(to).silver -= sum;
            return true;
        }

        int bale(int owner, int size, int weight, int worth) {
            if (sailed || bales.size() == 12 || !hasPerson(owner) || size < 1 || size > 40 || weight < 1
                || weight > 200 || worth < 1 || worth > 1000) {
                return -1;
            }
            Pack p = new Pack();
            p.owner = owner;
            p.size = size;
            p.weight = weight;
            p.worth = worth;
            bales.add(p);
            return bales.size() - 1;
        }

        boolean press(int b, int level) {
            if (sailed || !hasBale(b) || bales.get(b).lies() || level < 0 || level > 3) {
                return false;
            }
            bales.get(b).level = level;
            return true;
        }

        boolean lade(int b, int holder, int side) {
            if (sailed || !hasBale(b) || !hasPerson(holder) || side < 0 || side > 1 || bales.get(b).lies()
                || bales.get(b).room() > free(holder)) {
                return false;
            }
            bales.get(b).holder = holder;
            bales.get(b).side = side;
            return true;
        }

        boolean unlade(int b) {
            if (sailed || !hasBale(b) || !bales.get(b).lies()) {
                return false;
            }
            bales.get(b).holder = -1;
            bales.get(b).side = -1;
            return true;
        }

        int weight(int side) {
            int w = 0;
            for (Pack p : bales) {
                w += p.side == side ? p.weight : 0;
            }
            return w;
        }

        boolean bears() {
            return Math.abs(weight(0) - weight(1)) <= rules[0] && weight(0) + weight(1) <= rules[1];
        }

        int lying() {
            int n = 0;
            for (Pack p : bales) {
                n += p.lies() ? 1 : 0;
            }
            return n;
        }

        /** Every row of sides, counted up in threes from the greatest, so that the last of equals is the least. */
        int best() {
            List<Integer> waiting = new ArrayList<>();
            for (int i = 0; i < bales.size(); i++) {
                if (!bales.get(i).lies()) {
                    waiting.add(i);
                }
            }
            int k = waiting.size();
            if (sailed || k > 9) {
                return -1;
            }
            int[] room = new int[k];
            int[] value = new int[k];
            int[] weight = new int[k];
            int[] owner = new int[k];
            for (int i = 0; i < k; i++) {
                Pack p = bales.get(waiting.get(i));
                room[i] = p.room();
                value[i] = p.value();
                weight[i] = p.weight;
                owner[i] = p.owner;
            }
            int[] free = new int[8];
            for (int i = 0; i < 8; i++) {
                free[i] = free(i);
            }
            int left = weight(0);
            int right = weight(1);
            int rows = (int) Math.pow(3, k);
            int bestValue = -1;
            int bestSlips = 0;
            int bestCode = -1;
            for (int code = rows - 1; code >= 0; code--) {
                int[] used = new int[8];
                int v = 0;
                int s = 0;
                int[] w = {left, right};
                for (int i = k - 1, c = code; i >= 0; i--, c /= 3) {
                    if (c % 3 < 2) {
                        used[owner[i]] += room[i];
                        v += value[i];
                        s += room[i];
                        w[c % 3] += weight[i];
                    }
                }
                boolean fits = Math.abs(w[0] - w[1]) <= rules[0] && w[0] + w[1] <= rules[1];
                for (int i = 0; i < 8; i++) {
                    fits &= used[i] == 0 || used[i] <= free[i];
                }
                if (fits && (v > bestValue || v == bestValue && s <= bestSlips)) {
                    bestValue = v;
                    bestSlips = s;
                    bestCode = code;
                }
            }
            if (bestCode < 0) {
                return -1;
            }
            List<Integer> sides = new ArrayList<>();
            for (int i = 0; i < 12; i++) {
                sides.add(2);
            }
            for (int i = k - 1, c = bestCode; i >= 0; i--, c /= 3) {
                sides.set(waiting.get(i), c % 3);
            }
            bestRow = sides;
            return bestValue;
        }

        int bestSide(int b) {
            return bestRow == null || !hasBale(b) ? -1 : bestRow.get(b);
        }

        int ladeBest() {
            if (bestRow == null || sailed) {
                return -1;
            }
            int n = 0;
            for (int i = 0; i < bales.size(); i++) {
                n += lade(i, bales.get(i).owner, bestRow.get(i)) ? 1 : 0;
            }
            return n;
        }

        boolean sail() {
            if (sailed || !bears()) {
                return false;
            }
            sailed = true;
            return true;
        }

        int board(int opened, int least, int greatest, int what) {
            if (least < 0 || least > greatest || greatest > 1000 || what < 0 || what > 2) {
                return -1;
            }
            int low = 0;
            int high = 0;
            for (int i = 0; i < bales.size(); i++) {
                Pack p = bales.get(i);
                if (p.lies()) {
                    boolean open = (opened & 1 << i) != 0;
                    low += open ? p.value() : least;
                    high += open ? p.value() : greatest;
                }
            }
            return what == 0 ? low : what == 1 ? high : low > rules[2] ? 1 : 0;
        }

        int loan(int lender, int borrower, int sum, int percent) {
            if (sailed || loans.size() == 20 || !hasPerson(lender) || !hasPerson(borrower) || lender == borrower
                || sum < 1 || sum > 10000 || percent < 0 || percent > 100) {
                return -1;
            }
            people.get(lender).silver -= sum;
            people.get(borrower).silver += sum;
            loans.add(new int[] {lender, borrower, sum, percent});
            return loans.size() - 1;
        }

        int ends(boolean isLost) {
            if (!sailed || year == 199) {
                return -1;
            }
            int[] row = new int[9];
            row[0] = given;
            int room = 0;
            for (Pack p : bales) {
                if (p.lies()) {
                    row[1]++;
                    row[2] += p.value();
                    row[3] += p.weight;
                    room += p.room();
                }
            }
            if (isLost) {
                row[8] = 1;
                lost++;
            } else {
                row[4] = 20000 / (100 + room);
                for (Pack p : bales) {
                    if (p.lies()) {
                        int whole = p.value() * row[4] / 100;
                        int left = whole - whole / 10;
                        int rent = p.holder == p.owner ? 0 : Math.min(left, p.room() * rules[3]);
                        row[5] += whole;
                        row[6] += whole / 10;
                        row[7] += rent;
                        people.get(p.owner).returns += whole;
                        people.get(p.owner).silver += left - rent;
                        people.get(p.holder).silver += rent;
                        people.get(p.holder).rents += rent;
                    }
                }
                church += row[6];
                for (int[] l : loans) {
                    int back = l[2] + l[2] * l[3] / 100;
                    people.get(l[1]).silver -= back;
                    people.get(l[0]).silver += back;
                }
            }
            book.add(row);
            bales.clear();
            loans.clear();
            for (Person p : people) {
                p.slips = 0;
            }
            bestRow = null;
            given = 0;
            sailed = false;
            year++;
            return year;
        }

        int tell(int c, int what) {
            if (!hasPerson(c)) {
                return FAR;
            }
            Person p = people.get(c);
            int[] all = {p.rank, p.widow ? 1 : 0, share(p), p.slips, free(c), p.silver, p.returns, p.rents};
            return what < 0 || what > 7 ? FAR : all[what];
        }

        int about(int b, int what) {
            if (!hasBale(b)) {
                return -1;
            }
            Pack p = bales.get(b);
            int[] all = {p.owner, p.size, p.weight, p.worth, p.level, p.room(), p.value(), p.holder, p.side};
            return what < 0 || what > 8 ? -1 : all[what];
        }

        int book(int y, int what) {
            return y < 0 || y >= book.size() || what < 0 || what > 8 ? -1 : book.get(y)[what];
        }

        int count(int what) {
            int[] all = {people.size(), bales.size(), lying(), loans.size(), year, sailed ? 1 : 0, law.size(),
                weight(0) - weight(1), weight(0) + weight(1), church};
            return what < 0 || what > 9 ? FAR : all[what];
        }

        boolean image(int k) {
            if (k < 0 || k > 2) {
                return false;
            }
            images[k] = new Model();
            images[k].take(this);
            return true;
        }

        boolean again(int k) {
            if (k < 0 || k > 2 || images[k] == null) {
                return false;
            }
            take(images[k]);
            return true;
        }
    }
}
