/** Slips of one ship's hold, year by year; ../shared/DOC.md says what each call answers. */
public final class HoldSlips {
    public static final int NONE = -1;

    private static final int NO_ANSWER = -1000000000;
    private static final int MOST_TAPE = 400;
    private static final int FED_AT_ONCE = 20;
    private static final int MOST_LINES = 16;
    private static final int MOST_TESTS = 4;
    private static final int MOST_CITIZENS = 8;
    private static final int GREATEST_RANK = 9;
    private static final int MOST_SLIPS = 400;
    private static final int MOST_BALES = 12;
    private static final int MOST_SEARCHED = 9;
    private static final int MOST_LOANS = 20;
    private static final int GREATEST_SUM = 10000;
    private static final int GREATEST_WORTH = 1000;
    private static final int LAST_YEAR = 199;
    private static final int IMAGES = 3;
    private static final int WAITS = 2;
    private static final int ALL_OPENED = -1;

    private final State now = new State();
    private final State[] images = new State[IMAGES];
    private final DecreeReader reader = new DecreeReader();
    private final BestSearch search = new BestSearch();

    public HoldSlips() {
    }

    public int feed(int a, int b, int c, int d, int e) {
        Tape tape = now.tape;
        if (tape.length + FED_AT_ONCE > MOST_TAPE) {
            return NONE;
        }
        tape.append(a);
        tape.append(b);
        tape.append(c);
        tape.append(d);
        tape.append(e);
        return tape.length;
    }

    public int end(int n) {
        if (n < 0 || n > now.tape.length) {
            return NONE;
        }
        now.tape.length = n;
        return n;
    }

    public int decree() {
        reader.read(now.tape);
        now.tape.length = 0;
        now.fault = reader.fault;
        now.faultPlace = reader.place;
        if (reader.fault != 0) {
            return NONE;
        }
        now.law.copyFrom(reader.text);
        return now.law.lines;
    }

    public int fault(int what) {
        switch (what) {
            case 0: return now.fault;
            case 1: return now.faultPlace;
            default: return NONE;
        }
    }

    public int citizen(int rank, boolean widow) {
        if (!within(rank, 0, GREATEST_RANK)) {
            return NONE;
        }
        return now.people.enter(rank, widow);
    }

    public boolean rule(int what, int value) {
        return now.rules.change(what, value);
    }

    public boolean give(int h) {
        if (now.sailed || now.slipsGiven > 0 || !within(h, 1, MOST_SLIPS)) {
            return false;
        }
        return now.shareOut(h);
    }

    public boolean sell(int from, int to, int n, int sum) {
        if (now.sailed || !now.people.areTwo(from, to) || !within(sum, 0, GREATEST_SUM)) {
            return false;
        }
        if (!within(n, 1, now.freeSlips(from))) {
            return false;
        }
        now.people.slips[from] -= n;
        now.people.slips[to] += n;
        now.people.pay(to, from, sum);
        return true;
    }

    public int bale(int owner, int size, int weight, int worth) {
        if (now.sailed || !now.people.has(owner)) {
            return NONE;
        }
        if (!within(size, 1, 40) || !within(weight, 1, 200) || !within(worth, 1, GREATEST_WORTH)) {
            return NONE;
        }
        return now.cargo.enter(owner, size, weight, worth);
    }

    public boolean press(int bale, int level) {
        if (now.sailed || !now.cargo.waits(bale) || !within(level, 0, 3)) {
            return false;
        }
        now.cargo.level[bale] = level;
        return true;
    }

    public boolean lade(int bale, int holder, int side) {
        if (now.sailed || !within(side, 0, 1)) {
            return false;
        }
        return now.layBale(bale, holder, side);
    }

    public boolean unlade(int bale) {
        if (now.sailed || !now.cargo.lies(bale)) {
            return false;
        }
        now.cargo.takeOff(bale);
        return true;
    }

    public int best() {
        if (now.sailed || now.cargo.waiting() > MOST_SEARCHED) {
            return NONE;
        }
        search.start(now);
        if (!search.found) {
            return NONE;
        }
        now.cargo.keepPlan(search);
        return search.bestValue;
    }

    public int bestSide(int bale) {
        if (!now.cargo.isPlanned || !now.cargo.has(bale)) {
            return NONE;
        }
        return now.cargo.planned[bale];
    }

    public int ladeBest() {
        if (now.sailed || !now.cargo.isPlanned) {
            return NONE;
        }
        int laid = 0;
        for (int i = 0; i < now.cargo.number; i++) {
            int side = now.cargo.planned[i];
            if (side != WAITS && now.layBale(i, now.cargo.owner[i], side)) {
                laid++;
            }
        }
        return laid;
    }

    public boolean sail() {
        if (now.sailed || !now.rules.bears(now.cargo.tilt(), now.cargo.ladenWeight())) {
            return false;
        }
        now.sailed = true;
        return true;
    }

    public int board(int opened, int least, int greatest, int what) {
        if (least < 0 || least > greatest || greatest > GREATEST_WORTH) {
            return NONE;
        }
        switch (what) {
            case 0: return now.cargo.judged(opened, least);
            case 1: return now.cargo.judged(opened, greatest);
            case 2: return now.cargo.judged(opened, least) > now.rules.permit ? 1 : 0;
            default: return NONE;
        }
    }

    public int loan(int lender, int borrower, int sum, int percent) {
        if (now.sailed || !now.people.areTwo(lender, borrower)) {
            return NONE;
        }
        if (!within(sum, 1, GREATEST_SUM) || !within(percent, 0, 100)) {
            return NONE;
        }
        int number = now.debts.enter(lender, borrower, sum, percent);
        if (number != NONE) {
            now.people.pay(lender, borrower, sum);
        }
        return number;
    }

    public int ends(boolean lost) {
        if (!now.sailed || now.year >= LAST_YEAR) {
            return NONE;
        }
        now.closeYear(lost);
        return now.year;
    }

    public int tell(int citizen, int what) {
        Citizens people = now.people;
        if (!people.has(citizen)) {
            return NO_ANSWER;
        }
        switch (what) {
            case 0: return people.rank[citizen];
            case 1: return people.widow[citizen];
            case 2: return now.shareOf(citizen);
            case 3: return people.slips[citizen];
            case 4: return now.freeSlips(citizen);
            case 5: return people.silver[citizen];
            case 6: return people.returns[citizen];
            case 7: return people.rents[citizen];
            default: return NO_ANSWER;
        }
    }

    public int about(int bale, int what) {
        Bales cargo = now.cargo;
        if (!cargo.has(bale)) {
            return NONE;
        }
        switch (what) {
            case 0: return cargo.owner[bale];
            case 1: return cargo.size[bale];
            case 2: return cargo.weight[bale];
            case 3: return cargo.worth[bale];
            case 4: return cargo.level[bale];
            case 5: return cargo.room(bale);
            case 6: return cargo.value(bale);
            case 7: return cargo.holder[bale];
            case 8: return cargo.side[bale];
            default: return NONE;
        }
    }

    public int book(int year, int what) {
        if (!within(year, 0, now.year - 1) || !within(what, 0, YearBook.COLUMNS - 1)) {
            return NONE;
        }
        return now.ledger.entry(year, what);
    }

    public int count(int what) {
        switch (what) {
            case 0: return now.people.number;
            case 1: return now.cargo.number;
            case 2: return now.cargo.number - now.cargo.waiting();
            case 3: return now.debts.number;
            case 4: return now.year;
            case 5: return now.sailed ? 1 : 0;
            case 6: return now.law.lines;
            case 7: return now.cargo.tilt();
            case 8: return now.cargo.ladenWeight();
            case 9: return now.church;
            default: return NO_ANSWER;
        }
    }

    public boolean image(int k) {
        if (!within(k, 0, IMAGES - 1)) {
            return false;
        }
        State kept = images[k];
        if (kept == null) {
            kept = new State();
            images[k] = kept;
        }
        kept.copyFrom(now);
        return true;
    }

    public boolean again(int k) {
        if (!within(k, 0, IMAGES - 1)) {
            return false;
        }
        State kept = images[k];
        if (kept == null) {
            return false;
        }
        now.copyFrom(kept);
        return true;
    }

    private static boolean within(int value, int least, int greatest) {
        return value >= least && value <= greatest;
    }

    private static void copyRow(int[] from, int[] to) {
        System.arraycopy(from, 0, to, 0, Math.min(from.length, to.length));
    }

    /** All that an image keeps. */
    private static final class State {
        final Tape tape = new Tape();
        final Decree law = new Decree();
        final Citizens people = new Citizens();
        final Rules rules = new Rules();
        final Bales cargo = new Bales();
        final Loans debts = new Loans();
        final YearBook ledger = new YearBook();
        int fault = 0;
        int faultPlace = NONE;
        int year = 0;
        boolean sailed = false;
        int slipsGiven = 0;
        int lostYears = 0;
        int church = 0;

        void copyFrom(State other) {
            tape.copyFrom(other.tape);
            law.copyFrom(other.law);
            people.copyFrom(other.people);
            rules.copyFrom(other.rules);
            cargo.copyFrom(other.cargo);
            debts.copyFrom(other.debts);
            ledger.copyFrom(other.ledger);
            fault = other.fault;
            faultPlace = other.faultPlace;
            year = other.year;
            sailed = other.sailed;
            slipsGiven = other.slipsGiven;
            lostYears = other.lostYears;
            church = other.church;
        }

        int shareOf(int citizen) {
            return law.shareFor(people, citizen, year, lostYears);
        }

        int freeSlips(int citizen) {
            return people.slips[citizen] - cargo.roomOn(citizen);
        }

        /** All shares are known before any slip is given, since a test may ask for slips given. */
        boolean shareOut(int h) {
            int all = 0;
            for (int i = 0; i < people.number; i++) {
                people.share[i] = shareOf(i);
                all += people.share[i];
            }
            if (all == 0) {
                return false;
            }
            people.takeSlips(h, all);
            slipsGiven = h;
            return true;
        }

        boolean layBale(int bale, int holder, int side) {
            if (!cargo.waits(bale) || !people.has(holder)) {
                return false;
            }
            if (cargo.room(bale) > freeSlips(holder)) {
                return false;
            }
            cargo.holder[bale] = holder;
            cargo.side[bale] = side;
            return true;
        }

        void closeYear(boolean lost) {
            ledger.open(year, slipsGiven, cargo);
            if (lost) {
                lostYears++;
                ledger.put(year, YearBook.LOST, 1);
            } else {
                landBales();
                repayLoans();
            }
            people.dropSlips();
            cargo.dropAll();
            debts.number = 0;
            slipsGiven = 0;
            sailed = false;
            year++;
        }

        private void landBales() {
            int parts = 100 + cargo.ladenRoom();
            int price = parts > 0 ? 20000 / parts : 0;
            ledger.put(year, YearBook.PRICE, price);
            for (int i = 0; i < cargo.number; i++) {
                if (cargo.lies(i)) {
                    landBale(i, price);
                }
            }
        }

        private void landBale(int bale, int price) {
            int owner = cargo.owner[bale];
            int holder = cargo.holder[bale];
            int whole = cargo.value(bale) * price / 100;
            int tenth = whole / 10;
            int rent = 0;
            if (holder != owner) {
                rent = Math.min(rules.rent * cargo.room(bale), whole - tenth);
            }
            church += tenth;
            people.silver[holder] += rent;
            people.rents[holder] += rent;
            people.silver[owner] += whole - tenth - rent;
            people.returns[owner] += whole;
            ledger.raise(year, YearBook.RETURNS, whole);
            ledger.raise(year, YearBook.CHURCH, tenth);
            ledger.raise(year, YearBook.RENT, rent);
        }

        private void repayLoans() {
            for (int i = 0; i < debts.number; i++) {
                people.pay(debts.borrower[i], debts.lender[i], debts.owed(i));
            }
        }
    }

    private static final class Tape {
        final byte[] bytes = new byte[MOST_TAPE];
        int length = 0;

        void append(int four) {
            for (int shift = 24; shift >= 0 && length < MOST_TAPE; shift -= 8) {
                bytes[length] = (byte) (four >> shift);
                length++;
            }
        }

        void copyFrom(Tape other) {
            length = other.length;
            System.arraycopy(other.bytes, 0, bytes, 0, MOST_TAPE);
        }
    }

    /** The lines of a text without fault; test t of line l stands at l * MOST_TESTS + t. */
    private static final class Decree {
        static final int WIDOW = 1;
        static final int RANK = 2;
        static final int YEAR = 3;
        static final int SLIPS = 4;
        static final int LOST = 5;
        static final int SHARE = 6;
        static final int PLUS = 7;
        static final int NOTHING = 8;

        int lines = 0;
        final int[] action = new int[MOST_LINES];
        final int[] amount = new int[MOST_LINES];
        final int[] tests = new int[MOST_LINES];
        final int[] negated = new int[MOST_LINES * MOST_TESTS];
        final int[] subject = new int[MOST_LINES * MOST_TESTS];
        final int[] sign = new int[MOST_LINES * MOST_TESTS];
        final int[] limit = new int[MOST_LINES * MOST_TESTS];

        void copyFrom(Decree other) {
            lines = other.lines;
            copyRow(other.action, action);
            copyRow(other.amount, amount);
            copyRow(other.tests, tests);
            copyRow(other.negated, negated);
            copyRow(other.subject, subject);
            copyRow(other.sign, sign);
            copyRow(other.limit, limit);
        }

        /** A line too many is read on for its faults, but has no place here; so has a test. */
        void putLine(int line, int itsAction, int itsAmount, int itsTests) {
            if (line >= 0 && line < MOST_LINES) {
                action[line] = itsAction;
                amount[line] = itsAmount;
                tests[line] = Math.min(itsTests, MOST_TESTS);
                lines = line + 1;
            }
        }

        void putTest(int line, int test, boolean not, int itsSubject, int itsSign, int itsLimit) {
            if (line >= 0 && line < MOST_LINES && test >= 0 && test < MOST_TESTS) {
                int at = line * MOST_TESTS + test;
                negated[at] = not ? 1 : 0;
                subject[at] = itsSubject;
                sign[at] = itsSign;
                limit[at] = itsLimit;
            }
        }

        int shareFor(Citizens people, int citizen, int year, int lost) {
            int share = 0;
            for (int line = 0; line < lines; line++) {
                if (!allHold(line, people, citizen, year, lost)) {
                    continue;
                }
                if (action[line] == NOTHING) {
                    return 0;
                }
                share = action[line] == SHARE ? amount[line] : share + amount[line];
            }
            return share;
        }

        private boolean allHold(int line, Citizens people, int citizen, int year, int lost) {
            int first = line * MOST_TESTS;
            for (int at = first; at < first + tests[line]; at++) {
                int told = subjectOf(subject[at], people, citizen, year, lost);
                if (agrees(told, sign[at], limit[at]) == (negated[at] == 1)) {
                    return false;
                }
            }
            return true;
        }

        private static int subjectOf(int what, Citizens people, int citizen, int year, int lost) {
            switch (what) {
                case RANK: return people.rank[citizen];
                case YEAR: return year;
                case SLIPS: return people.given[citizen];
                case LOST: return lost;
                default: return people.widow[citizen];
            }
        }

        private static boolean agrees(int told, int sign, int limit) {
            switch (sign) {
                case '<': return told < limit;
                case '>': return told > limit;
                default: return told == limit;
            }
        }
    }

    /** The bytes of a tape as tokens, one at a time; words that a decree keeps have its numbers, signs their byte. */
    private static final class TokenReader {
        static final int AT_END = 0;
        static final int IF = 9;
        static final int AND = 10;
        static final int NOT = 11;
        static final int NUMBER = 12;
        static final int NO_TOKEN = 13;

        final Tape tape = new Tape();
        int token = AT_END;
        int start = 0;
        int next = 0;
        int number = 0;

        void begin(Tape taken) {
            tape.copyFrom(taken);
            next = 0;
        }

        void step() {
            while (next < tape.length && isBlank(tape.bytes[next])) {
                next++;
            }
            start = next;
            if (next >= tape.length) {
                token = AT_END;
                return;
            }
            int first = tape.bytes[next];
            if (isLetter(first)) {
                stepWord();
            } else if (isDigit(first)) {
                stepNumber();
            } else {
                token = within(first, ':', '>') ? first : NO_TOKEN;
                next++;
            }
        }

        private void stepWord() {
            while (next < tape.length && isLetter(tape.bytes[next])) {
                next++;
            }
            token = wordToken();
        }

        private void stepNumber() {
            number = 0;
            while (next < tape.length && isDigit(tape.bytes[next])) {
                number = number * 10 + (tape.bytes[next] - '0');
                next++;
            }
            token = next - start <= 3 ? NUMBER : NO_TOKEN;
        }

        private int wordToken() {
            switch (tape.bytes[start]) {
                case 'i': return isWord("if") ? IF : NO_TOKEN;
                case 'a': return isWord("and") ? AND : NO_TOKEN;
                case 'w': return isWord("widow") ? Decree.WIDOW : NO_TOKEN;
                case 'r': return isWord("rank") ? Decree.RANK : NO_TOKEN;
                case 'y': return isWord("year") ? Decree.YEAR : NO_TOKEN;
                case 'l': return isWord("lost") ? Decree.LOST : NO_TOKEN;
                case 'p': return isWord("plus") ? Decree.PLUS : NO_TOKEN;
                case 'n':
                    if (isWord("not")) {
                        return NOT;
                    }
                    return isWord("none") ? Decree.NOTHING : NO_TOKEN;
                case 's':
                    if (isWord("slips")) {
                        return Decree.SLIPS;
                    }
                    return isWord("share") ? Decree.SHARE : NO_TOKEN;
                default: return NO_TOKEN;
            }
        }

        private boolean isWord(String word) {
            if (next - start != word.length()) {
                return false;
            }
            for (int i = 0; i < word.length(); i++) {
                if (tape.bytes[start + i] != word.charAt(i)) {
                    return false;
                }
            }
            return true;
        }

        private static boolean isBlank(int b) {
            return b == 10 || b == 32;
        }

        private static boolean isLetter(int b) {
            return within(b, 'a', 'z');
        }

        private static boolean isDigit(int b) {
            return within(b, '0', '9');
        }
    }

    /** Reads a tape as a decree; its state is what may come next, so the first misfit is the fault. */
    private static final class DecreeReader {
        static final int BROKEN = 1;
        static final int TOO_MANY = 3;
        static final int LINE_START = 0;
        static final int TEST_START = 1;
        static final int SUBJECT = 2;
        static final int COMPARISON = 3;
        static final int LIMIT = 4;
        static final int TEST_END = 5;
        static final int ACTION = 6;
        static final int AMOUNT = 7;
        static final int LINE_END = 8;

        final TokenReader at = new TokenReader();
        final Decree text = new Decree();
        int fault = 0;
        int place = NONE;
        int excess = NONE;
        int state = LINE_START;
        int line = 0;
        int tests = 0;
        boolean negated = false;
        int subject = 0;
        int sign = 0;
        int action = 0;

        void read(Tape tape) {
            begin();
            at.begin(tape);
            // Each token takes a byte at least, and the end comes behind the last.
            for (int n = 0; n <= MOST_TAPE; n++) {
                at.step();
                if (at.token == TokenReader.AT_END && state == LINE_START) {
                    break;
                }
                if (!take()) {
                    fault = BROKEN;
                    place = at.start;
                    return;
                }
            }
            if (excess != NONE) {
                fault = TOO_MANY;
                place = excess;
            }
        }

        private void begin() {
            text.lines = 0;
            fault = 0;
            place = NONE;
            excess = NONE;
            state = LINE_START;
            line = 0;
            tests = 0;
        }

        private boolean take() {
            switch (state) {
                case LINE_START: return takeLineStart();
                case TEST_START: return takeTestStart();
                case SUBJECT: return takeSubject();
                case COMPARISON: return takeComparison();
                case LIMIT: return takeLimit();
                case TEST_END: return takeTestEnd();
                case ACTION: return takeAction();
                case AMOUNT: return takeAmount();
                default: return takeLineEnd();
            }
        }

        private boolean takeLineStart() {
            if (line >= MOST_LINES) {
                noteExcess();
            }
            tests = 0;
            if (at.token == TokenReader.IF) {
                state = TEST_START;
                return true;
            }
            return takeAction();
        }

        private boolean takeTestStart() {
            if (tests >= MOST_TESTS) {
                noteExcess();
            }
            negated = at.token == TokenReader.NOT;
            if (negated) {
                state = SUBJECT;
                return true;
            }
            return takeSubject();
        }

        private boolean takeSubject() {
            if (!within(at.token, Decree.WIDOW, Decree.LOST)) {
                return false;
            }
            subject = at.token;
            if (subject == Decree.WIDOW) {
                keepTest('=', 1);
            } else {
                state = COMPARISON;
            }
            return true;
        }

        private boolean takeComparison() {
            if (at.token != '<' && at.token != '>' && at.token != '=') {
                return false;
            }
            sign = at.token;
            state = LIMIT;
            return true;
        }

        private boolean takeLimit() {
            if (at.token != TokenReader.NUMBER) {
                return false;
            }
            keepTest(sign, at.number);
            return true;
        }

        private boolean takeTestEnd() {
            if (at.token == TokenReader.AND) {
                state = TEST_START;
                return true;
            }
            state = ACTION;
            return at.token == ':';
        }

        private boolean takeAction() {
            if (!within(at.token, Decree.SHARE, Decree.NOTHING)) {
                return false;
            }
            action = at.token;
            if (action == Decree.NOTHING) {
                keepLine(0);
            } else {
                state = AMOUNT;
            }
            return true;
        }

        private boolean takeAmount() {
            if (at.token != TokenReader.NUMBER) {
                return false;
            }
            keepLine(at.number);
            return true;
        }

        private boolean takeLineEnd() {
            state = LINE_START;
            return at.token == ';';
        }

        private void keepTest(int itsSign, int itsLimit) {
            text.putTest(line, tests, negated, subject, itsSign, itsLimit);
            tests++;
            state = TEST_END;
        }

        private void keepLine(int amount) {
            text.putLine(line, action, amount, tests);
            line++;
            state = LINE_END;
        }

        private void noteExcess() {
            if (excess == NONE) {
                excess = at.start;
            }
        }
    }

    private static final class Citizens {
        int number = 0;
        final int[] rank = new int[MOST_CITIZENS];
        final int[] widow = new int[MOST_CITIZENS];
        final int[] slips = new int[MOST_CITIZENS];
        final int[] given = new int[MOST_CITIZENS];
        final int[] silver = new int[MOST_CITIZENS];
        final int[] returns = new int[MOST_CITIZENS];
        final int[] rents = new int[MOST_CITIZENS];
        /** Scratch of one giving; no image needs them. */
        final int[] share = new int[MOST_CITIZENS];
        final int[] rest = new int[MOST_CITIZENS];

        void copyFrom(Citizens other) {
            number = other.number;
            copyRow(other.rank, rank);
            copyRow(other.widow, widow);
            copyRow(other.slips, slips);
            copyRow(other.given, given);
            copyRow(other.silver, silver);
            copyRow(other.returns, returns);
            copyRow(other.rents, rents);
        }

        boolean has(int citizen) {
            return within(citizen, 0, number - 1);
        }

        boolean areTwo(int one, int other) {
            return has(one) && has(other) && one != other;
        }

        /** The place is new, all 0: no citizen goes, and an image is copied with its empty places. */
        int enter(int itsRank, boolean isWidow) {
            if (number >= MOST_CITIZENS) {
                return NONE;
            }
            rank[number] = itsRank;
            widow[number] = isWidow ? 1 : 0;
            number++;
            return number - 1;
        }

        void pay(int payer, int taker, int sum) {
            silver[payer] -= sum;
            silver[taker] += sum;
        }

        /** By the shares noted in the scratch row, whose sum is all, above 0. */
        void takeSlips(int h, int all) {
            if (all <= 0) {
                return;
            }
            int left = h;
            for (int i = 0; i < number; i++) {
                given[i] = h * share[i] / all;
                rest[i] = h * share[i] % all;
                left -= given[i];
            }
            for (int n = 0; n < number && left > 0; n++) {
                int lucky = greatestRest();
                given[lucky]++;
                rest[lucky] = NONE;
                left--;
            }
            copyRow(given, slips);
        }

        private int greatestRest() {
            int greatest = 0;
            for (int i = 1; i < number; i++) {
                if (rest[i] > rest[greatest]) {
                    greatest = i;
                }
            }
            return greatest;
        }

        void dropSlips() {
            for (int i = 0; i < number; i++) {
                slips[i] = 0;
            }
        }
    }

    private static final class Rules {
        int bound = 100;
        int load = 1000;
        int permit = 1000;
        int rent = 1;

        void copyFrom(Rules other) {
            bound = other.bound;
            load = other.load;
            permit = other.permit;
            rent = other.rent;
        }

        boolean change(int what, int value) {
            if (!within(value, 0, greatest(what))) {
                return false;
            }
            switch (what) {
                case 0: bound = value; break;
                case 1: load = value; break;
                case 2: permit = value; break;
                default: rent = value; break;
            }
            return true;
        }

        /** Below 0 for what is no rule, so that no value is within. */
        private static int greatest(int what) {
            switch (what) {
                case 0: return 2400;
                case 1: return 2400;
                case 2: return 12000;
                case 3: return 9;
                default: return NONE;
            }
        }

        boolean bears(int tilt, int weight) {
            return Math.abs(tilt) <= bound && weight <= load;
        }
    }

    private static final class Bales {
        int number = 0;
        final int[] owner = new int[MOST_BALES];
        final int[] size = new int[MOST_BALES];
        final int[] weight = new int[MOST_BALES];
        final int[] worth = new int[MOST_BALES];
        final int[] level = new int[MOST_BALES];
        final int[] holder = new int[MOST_BALES];
        final int[] side = new int[MOST_BALES];
        /** The best lading at hand, if there is one. */
        boolean isPlanned = false;
        final int[] planned = new int[MOST_BALES];

        void copyFrom(Bales other) {
            number = other.number;
            isPlanned = other.isPlanned;
            copyRow(other.owner, owner);
            copyRow(other.size, size);
            copyRow(other.weight, weight);
            copyRow(other.worth, worth);
            copyRow(other.level, level);
            copyRow(other.holder, holder);
            copyRow(other.side, side);
            copyRow(other.planned, planned);
        }

        int enter(int itsOwner, int itsSize, int itsWeight, int itsWorth) {
            if (number >= MOST_BALES) {
                return NONE;
            }
            owner[number] = itsOwner;
            size[number] = itsSize;
            weight[number] = itsWeight;
            worth[number] = itsWorth;
            level[number] = 0;
            planned[number] = WAITS;
            takeOff(number);
            number++;
            return number - 1;
        }

        void dropAll() {
            number = 0;
            isPlanned = false;
        }

        void keepPlan(BestSearch search) {
            isPlanned = true;
            for (int i = 0; i < number; i++) {
                planned[i] = WAITS;
            }
            for (int i = 0; i < search.number; i++) {
                planned[search.bale[i]] = search.bestSide[i];
            }
        }

        void takeOff(int bale) {
            holder[bale] = NONE;
            side[bale] = NONE;
        }

        boolean has(int bale) {
            return within(bale, 0, number - 1);
        }

        boolean lies(int bale) {
            return has(bale) && holder[bale] != NONE;
        }

        boolean waits(int bale) {
            return has(bale) && holder[bale] == NONE;
        }

        int room(int bale) {
            return size[bale] - size[bale] * level[bale] / 10;
        }

        int value(int bale) {
            return worth[bale] - worth[bale] * level[bale] / 20;
        }

        int waiting() {
            int n = 0;
            for (int i = 0; i < number; i++) {
                n += waits(i) ? 1 : 0;
            }
            return n;
        }

        int roomOn(int citizen) {
            int all = 0;
            for (int i = 0; i < number; i++) {
                all += holder[i] == citizen ? room(i) : 0;
            }
            return all;
        }

        int ladenRoom() {
            int all = 0;
            for (int i = 0; i < number; i++) {
                all += lies(i) ? room(i) : 0;
            }
            return all;
        }

        int ladenWeight() {
            return weightOn(0) + weightOn(1);
        }

        int tilt() {
            return weightOn(0) - weightOn(1);
        }

        private int weightOn(int which) {
            int all = 0;
            for (int i = 0; i < number; i++) {
                all += side[i] == which ? weight[i] : 0;
            }
            return all;
        }

        /** The value of all that lies, where each bale that is not opened counts as guessed. */
        int judged(int opened, int guess) {
            int all = 0;
            for (int i = 0; i < number; i++) {
                if (lies(i)) {
                    all += (opened >> i & 1) == 1 ? value(i) : guess;
                }
            }
            return all;
        }
    }

    private static final class Loans {
        int number = 0;
        final int[] lender = new int[MOST_LOANS];
        final int[] borrower = new int[MOST_LOANS];
        final int[] sum = new int[MOST_LOANS];
        final int[] percent = new int[MOST_LOANS];

        void copyFrom(Loans other) {
            number = other.number;
            copyRow(other.lender, lender);
            copyRow(other.borrower, borrower);
            copyRow(other.sum, sum);
            copyRow(other.percent, percent);
        }

        int enter(int itsLender, int itsBorrower, int itsSum, int itsPercent) {
            if (number >= MOST_LOANS) {
                return NONE;
            }
            lender[number] = itsLender;
            borrower[number] = itsBorrower;
            sum[number] = itsSum;
            percent[number] = itsPercent;
            number++;
            return number - 1;
        }

        int owed(int which) {
            return sum[which] + sum[which] * percent[which] / 100;
        }
    }

    /** The search for the best lading: rows in rising order, so that of equal ones the first stays. */
    private static final class BestSearch {
        int number = 0;
        final int[] bale = new int[MOST_BALES];
        final int[] owner = new int[MOST_BALES];
        final int[] room = new int[MOST_BALES];
        final int[] value = new int[MOST_BALES];
        final int[] weight = new int[MOST_BALES];
        /** What the bales from a place on have together: how much the rows below can still change. */
        final int[] roomFrom = new int[MOST_BALES + 1];
        final int[] valueFrom = new int[MOST_BALES + 1];
        final int[] weightFrom = new int[MOST_BALES + 1];
        final int[] free = new int[MOST_CITIZENS];
        final int[] side = new int[MOST_BALES];
        final int[] bestSide = new int[MOST_BALES];
        int bound = 0;
        int load = 0;
        boolean found = false;
        int bestValue = 0;
        int bestSlips = 0;

        void start(State now) {
            bound = now.rules.bound;
            load = now.rules.load;
            found = false;
            for (int i = 0; i < now.people.number; i++) {
                free[i] = now.freeSlips(i);
            }
            gather(now.cargo);
            layFrom(this, 0, 0, 0, now.cargo.tilt(), now.cargo.ladenWeight());
        }

        private void gather(Bales cargo) {
            number = 0;
            for (int i = 0; i < cargo.number; i++) {
                if (cargo.waits(i)) {
                    bale[number] = i;
                    owner[number] = cargo.owner[i];
                    room[number] = cargo.room(i);
                    value[number] = cargo.value(i);
                    weight[number] = cargo.weight[i];
                    number++;
                }
            }
            roomFrom[number] = 0;
            valueFrom[number] = 0;
            weightFrom[number] = 0;
            for (int i = number - 1; i >= 0; i--) {
                roomFrom[i] = roomFrom[i + 1] + room[i];
                valueFrom[i] = valueFrom[i + 1] + value[i];
                weightFrom[i] = weightFrom[i + 1] + weight[i];
            }
        }

        private static void layFrom(BestSearch s, int depth, int value, int slips, int tilt, int weight) {
            if (depth > s.number || s.isHopeless(depth, value, slips, tilt, weight)) {
                return;
            }
            if (depth == s.number) {
                s.keep(value, slips);
                return;
            }
            int owner = s.owner[depth];
            int room = s.room[depth];
            int heavier = weight + s.weight[depth];
            if (room <= s.free[owner]) {
                s.free[owner] -= room;
                s.side[depth] = 0;
                layFrom(s, depth + 1, value + s.value[depth], slips + room, tilt + s.weight[depth], heavier);
                s.side[depth] = 1;
                layFrom(s, depth + 1, value + s.value[depth], slips + room, tilt - s.weight[depth], heavier);
                s.free[owner] += room;
            }
            s.side[depth] = WAITS;
            layFrom(s, depth + 1, value, slips, tilt, weight);
        }

        /** The ship can bear no row below, or none below goes before the best so far. */
        private boolean isHopeless(int depth, int laidValue, int slips, int tilt, int laidWeight) {
            if (laidWeight > load || Math.abs(tilt) - weightFrom[depth] > bound) {
                return true;
            }
            if (!found) {
                return false;
            }
            int most = laidValue + valueFrom[depth];
            return most < bestValue || most == bestValue && slips + roomFrom[depth] >= bestSlips;
        }

        private void keep(int laidValue, int slips) {
            found = true;
            bestValue = laidValue;
            bestSlips = slips;
            copyRow(side, bestSide);
        }
    }

    /** One row of numbers for each year that ended. */
    private static final class YearBook {
        static final int COLUMNS = 9;
        static final int GIVEN = 0;
        static final int BALES = 1;
        static final int VALUE = 2;
        static final int WEIGHT = 3;
        static final int PRICE = 4;
        static final int RETURNS = 5;
        static final int CHURCH = 6;
        static final int RENT = 7;
        static final int LOST = 8;

        final int[] cells = new int[LAST_YEAR * COLUMNS];

        void copyFrom(YearBook other) {
            copyRow(other.cells, cells);
        }

        int entry(int year, int what) {
            return isCell(year, what) ? cells[year * COLUMNS + what] : NONE;
        }

        void put(int year, int what, int number) {
            if (isCell(year, what)) {
                cells[year * COLUMNS + what] = number;
            }
        }

        void raise(int year, int what, int more) {
            if (isCell(year, what)) {
                cells[year * COLUMNS + what] += more;
            }
        }

        private static boolean isCell(int year, int what) {
            return within(year, 0, LAST_YEAR - 1) && within(what, 0, COLUMNS - 1);
        }

        /** The row is new, all 0: an image is copied with the rows of the years to come. */
        void open(int year, int given, Bales cargo) {
            put(year, GIVEN, given);
            put(year, BALES, cargo.number - cargo.waiting());
            put(year, VALUE, cargo.judged(ALL_OPENED, 0));
            put(year, WEIGHT, cargo.ladenWeight());
        }
    }
}
