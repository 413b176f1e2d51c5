/** Lucky tickets of a tram: what is told in its text, done, tried, seen and drawn. */
public final class LuckyTickets {
    public static final int NONE = -1, UNKNOWN = -1000000001, OUTSIDE = -1000000002, NOT = -1000000003, FULL = -1000000004;

    private static final int MAX_LETTERS = 240, MAX_RULES = 4, MAX_ROLLS = 4, MAX_RIDERS = 5;
    private static final int MAX_LEFT = 200, MAX_AT_ONCE = 60, MAX_COUNTED = 9999, MAX_DAYS_AHEAD = 9000;
    private static final int MAX_SEEN = 8, MAX_BOOK = 15, MAX_UNDONE = 16, IMAGES = 2;
    private static final int ALL = 0, ANY = 1;
    /** So many words of 64 bits hold the 10000 numbers of four figures. */
    private static final int WORDS = 157;
    private static final int BILLION = 1000000000;

    private final Reader reader = new Reader();
    private final Tram now = new Tram();
    private final LuckyTable table = new LuckyTable();
    private final Past past = new Past();
    private final Guess guess = new Guess();
    private final Book book = new Book();
    private final Image[] images = new Image[IMAGES];
    private long seedNow;
    private int faultAt = NONE;

    public LuckyTickets() {
        for (int i = 0; i < IMAGES; i++) {
            images[i] = new Image();
        }
    }

    // ---- the tram

    public int feed(int letter) {
        if (letter < 0 || letter > 255) {
            return OUTSIDE;
        }
        return reader.text.add((char) letter) ? reader.text.length : FULL;
    }

    public int tram() {
        reader.readText();
        reader.text.length = 0;
        if (reader.faultKind != 0) {
            faultAt = reader.faultAt;
            return -10 - reader.faultKind;
        }
        faultAt = NONE;
        now.copyFrom(reader.out);
        table.follow(now);
        past.count = 0;
        guess.forget(now.figures);
        book.count = 0;
        for (int i = 0; i < IMAGES; i++) {
            images[i].isKept = false;
        }
        return now.riderCount;
    }

    public int fault() {
        return faultAt;
    }

    public int told(int what) {
        switch (what) {
            case 0: return now.figures;
            case 1: return now.mode;
            case 2: return now.ruleCount;
            case 3: return now.rollCount;
            case 4: return now.riderCount;
            case 5: return reader.text.length;
            case 6: return now.days;
            case 7: return table.count;
            case 8: return bestRoll();
            case 9: return now.luckiestRider();
            case 10: return guess.seen;
            case 11: return guess.count;
            case 12: return guess.bestQuestion();
            case 13: return book.count;
            case 14: return past.count;
            default: return OUTSIDE;
        }
    }

    public int ruleOf(int r, int what) {
        if (!now.hasRule(r)) {
            return UNKNOWN;
        }
        switch (what) {
            case 0: return Rules.kindOf(now.rules[r]);
            case 1: return Rules.aOf(now.rules[r]);
            case 2: return Rules.bOf(now.rules[r]);
            case 3: return 100000 + table.countWithout(r) - table.count;
            default: return OUTSIDE;
        }
    }

    public int rollOf(int r, int what) {
        if (!now.hasRoll(r)) {
            return UNKNOWN;
        }
        switch (what) {
            case 0: return now.nextTicket(r);
            case 1: return now.ticketsLeft(r);
            case 2: return soonFrom(r);
            case 3: return whoGetsIt(r);
            case 4: return luckyLeft(r) / partDivisor(r);
            case 5: return luckyLeft(r) == 0 ? 1 : now.ticketsLeft(r) / partDivisor(r);
            default: return OUTSIDE;
        }
    }

    public int rider(int p, int what) {
        if (!now.hasRider(p)) {
            return UNKNOWN;
        }
        return what < 0 || what >= Tram.RIDER_CELLS ? OUTSIDE : now.riderCell(p, what);
    }

    public int lucky(int n, int what) {
        if (!now.hasNumber(n) || what < 0 || what > 1) {
            return OUTSIDE;
        }
        if (what == 1) {
            return table.rulesSayingYes(n);
        }
        return table.isLucky(n) ? 1 : 0;
    }

    // ---- what is done

    public int sell(int r, int p) {
        if (!now.hasRoll(r) || !now.hasRider(p)) {
            return UNKNOWN;
        }
        if (now.ticketsLeft(r) == 0) {
            return NOT;
        }
        past.remember(now);
        int ticket = now.nextTicket(r);
        sellOne(r, p);
        return ticket;
    }

    public int line(int r, int n) {
        if (!now.hasRoll(r)) {
            return UNKNOWN;
        }
        if (n < 1 || n > MAX_AT_ONCE) {
            return OUTSIDE;
        }
        if (now.riderCount == 0 || now.ticketsLeft(r) < n) {
            return NOT;
        }
        past.remember(now);
        int luckyOnes = 0;
        for (int i = 0; i < n; i++) {
            if (sellOne(r, i % now.riderCount)) {
                luckyOnes++;
            }
        }
        return luckyOnes;
    }

    public int give(int p, int q) {
        if (!now.hasRider(p) || !now.hasRider(q) || p == q) {
            return UNKNOWN;
        }
        if (now.riderCell(p, Tram.LUCKY_KEPT) == 0) {
            return NOT;
        }
        past.remember(now);
        now.giveLucky(p, q);
        return now.riderCell(q, Tram.LUCKY_KEPT);
    }

    public int rule(int r, int kind, int a, int b) {
        if (!now.hasRule(r)) {
            return UNKNOWN;
        }
        if (!Rules.mayBeTold(kind, a, b)) {
            return OUTSIDE;
        }
        past.remember(now);
        now.rules[r] = Rules.code(kind, a, b);
        table.follow(now);
        return table.count;
    }

    public int mode(int q) {
        if (q != ALL && q != ANY) {
            return OUTSIDE;
        }
        if (now.figures == 0 || now.mode == q) {
            return NOT;
        }
        past.remember(now);
        now.mode = q;
        table.follow(now);
        return table.count;
    }

    public int roll(int r, int n, int c) {
        if (!now.hasRoll(r)) {
            return UNKNOWN;
        }
        if (!now.hasNumber(n) || c < 0 || c > MAX_LEFT) {
            return OUTSIDE;
        }
        past.remember(now);
        int wereLeft = now.ticketsLeft(r);
        now.putRoll(r, n, c);
        return wereLeft;
    }

    public int drift(int n) {
        if (n < 1 || n > MAX_AT_ONCE) {
            return OUTSIDE;
        }
        if (now.figures == 0) {
            return NOT;
        }
        if (now.days > MAX_DAYS_AHEAD) {
            return FULL;
        }
        past.remember(now);
        for (int day = 0; day < n; day++) {
            liveOneDay();
        }
        return now.days;
    }

    public int undo() {
        if (past.count == 0) {
            return NOT;
        }
        past.takeBack(now);
        table.follow(now);
        return past.count;
    }

    // ---- tried

    public int next(int n) {
        return now.hasNumber(n) ? table.nextFrom(n) : OUTSIDE;
    }

    public int upTo(int a, int b) {
        return now.hasNumber(a) && now.hasNumber(b) ? table.countBetween(a, b) : OUTSIDE;
    }

    public int kth(int k) {
        return k < 0 ? OUTSIDE : table.numberAfter(k);
    }

    public int waits(int what) {
        if (what < 0 || what > 1) {
            return OUTSIDE;
        }
        int lower = table.lowerOfLongestWait();
        if (lower == NONE || what == 1) {
            return lower;
        }
        return table.nextFrom(lower + 1) - lower;
    }

    public int dry(int n, int q) {
        if (n < 0 || n > 60 || q < 0 || q > 100) {
            return OUTSIDE;
        }
        long odds = BILLION;
        for (int day = 0; day < n; day++) {
            odds = odds * q / 100;
        }
        return (int) odds;
    }

    // ---- what is seen

    public int see(int n, boolean lucky) {
        if (!now.hasNumber(n)) {
            return OUTSIDE;
        }
        if (guess.seen >= MAX_SEEN) {
            return FULL;
        }
        guess.takeIn(n, lucky);
        return guess.seen;
    }

    public int could(int i, int what) {
        if (what < 0 || what > 2) {
            return OUTSIDE;
        }
        if (i < 0 || i >= guess.count) {
            return NONE;
        }
        int code = guess.codes[i];
        if (what == 0) {
            return Rules.kindOf(code);
        }
        return what == 1 ? Rules.aOf(code) : Rules.bOf(code);
    }

    public int write(int n, boolean lucky) {
        if (!now.hasNumber(n)) {
            return OUTSIDE;
        }
        return book.add(n, lucky) ? book.count : FULL;
    }

    public int tear() {
        int had = guess.seen + book.count;
        guess.forget(now.figures);
        book.count = 0;
        return had;
    }

    public int judge() {
        for (int i = 0; i < book.count; i++) {
            if (table.isLucky(book.numbers[i]) != book.saidLucky[i]) {
                return i;
            }
        }
        return NONE;
    }

    // ---- draws, images

    public int seed(int v) {
        if (v < 0) {
            return OUTSIDE;
        }
        int was = (int) seedNow;
        seedNow = v;
        return was;
    }

    public int keep(int i) {
        if (i < 0 || i >= IMAGES) {
            return UNKNOWN;
        }
        images[i].isKept = true;
        images[i].seedThen = seedNow;
        images[i].then.copyFrom(now);
        past.count = 0;
        return 1;
    }

    public int goBack(int i) {
        if (i < 0 || i >= IMAGES) {
            return UNKNOWN;
        }
        if (!images[i].isKept) {
            return NOT;
        }
        seedNow = images[i].seedThen;
        now.copyFrom(images[i].then);
        table.follow(now);
        past.count = 0;
        return 1;
    }

    // ---- inside

    /** Whether the one that was sold is lucky. */
    private boolean sellOne(int r, int p) {
        boolean isLucky = table.isLucky(now.nextTicket(r));
        now.takeTicket(r);
        now.handOver(p, isLucky);
        return isLucky;
    }

    private void liveOneDay() {
        now.days++;
        if (now.rollCount == 0 || now.riderCount == 0) {
            return;
        }
        int deed = drawOf(4);
        int r = drawOf(now.rollCount);
        int p = drawOf(now.riderCount);
        if (deed == 3) {
            now.putRoll(r, drawOf(now.numbers()), 50);
        } else if (now.ticketsLeft(r) > 0) {
            sellOne(r, p);
        }
    }

    private int drawOf(int n) {
        seedNow = (seedNow * 1103515245L + 12345L) % 2147483648L;
        return n > 0 ? (int) (seedNow / 65536L % n) : 0;
    }

    private int soonFrom(int r) {
        int left = now.ticketsLeft(r);
        int ticket = now.nextTicket(r);
        for (int i = 0; i < left; i++) {
            if (table.isLucky(ticket)) {
                return i;
            }
            ticket = now.behind(ticket);
        }
        return NONE;
    }

    private int whoGetsIt(int r) {
        int soon = soonFrom(r);
        return soon == NONE || now.riderCount == 0 ? NONE : soon % now.riderCount;
    }

    private int bestRoll() {
        int best = NONE;
        int bestSoon = NONE;
        for (int r = 0; r < now.rollCount; r++) {
            int soon = soonFrom(r);
            if (soon != NONE && (best == NONE || soon < bestSoon)) {
                best = r;
                bestSoon = soon;
            }
        }
        return best;
    }

    private int luckyLeft(int r) {
        int left = now.ticketsLeft(r);
        int ticket = now.nextTicket(r);
        int luckyOnes = 0;
        for (int i = 0; i < left; i++) {
            if (table.isLucky(ticket)) {
                luckyOnes++;
            }
            ticket = now.behind(ticket);
        }
        return luckyOnes;
    }

    /** What goes into both parts of PART; at least 1. */
    private int partDivisor(int r) {
        int big = now.ticketsLeft(r);
        int small = luckyLeft(r);
        for (int step = 0; step < MAX_LEFT && small > 0; step++) {
            int rest = big % small;
            big = small;
            small = rest;
        }
        return Math.max(1, big);
    }

    /** THE TEXT as it comes, letter by letter. */
    private static final class Text {
        final char[] letters = new char[MAX_LETTERS];
        int length;

        boolean add(char letter) {
            if (length >= MAX_LETTERS) {
                return false;
            }
            letters[length] = letter;
            length++;
            return true;
        }

        /** The letter there; 0, which is no word, behind the end. */
        char letterAt(int place) {
            return place >= 0 && place < length ? letters[place] : (char) 0;
        }
    }

    /** A number with its figures spelled out, from the front. */
    private static final class Ticket {
        final int[] row = new int[4];
        int figures;
        int number;

        void spell(int n, int figureCount) {
            figures = Math.min(figureCount, 4);
            number = n;
            int rest = n;
            for (int k = figures - 1; k >= 0; k--) {
                row[k] = rest % 10;
                rest /= 10;
            }
        }

        int halvesApart() {
            int difference = 0;
            for (int k = 0; k < figures / 2; k++) {
                difference += row[k] - row[figures - 1 - k];
            }
            return Math.abs(difference);
        }

        int unlikePairs() {
            int unlike = 0;
            for (int k = 0; k < figures / 2; k++) {
                if (row[k] != row[figures - 1 - k]) {
                    unlike++;
                }
            }
            return unlike;
        }

        int timesThere(int figure) {
            int times = 0;
            for (int k = 0; k < figures; k++) {
                if (row[k] == figure) {
                    times++;
                }
            }
            return times;
        }

        int falls() {
            int fallen = 0;
            for (int k = 1; k < figures; k++) {
                if (row[k] < row[k - 1]) {
                    fallen++;
                }
            }
            return fallen;
        }
    }

    /** What rules may be told and what they say; a rule is held as one number, its code. */
    private static final class Rules {
        static final int HALVES = 0, MIRROR = 1, COUNT = 2, REST = 3, RISING = 4, KINDS = 5;
        static final int MAY_BE_TOLD = 171;
        private static final int[] LEAST_A = {0, 0, 0, 2, 0};
        private static final int[] GREATEST_A = {36, 2, 9, 12, 3};

        static int code(int kind, int a, int b) {
            return kind * 10000 + a * 100 + b;
        }

        static int kindOf(int code) {
            return code / 10000;
        }

        static int aOf(int code) {
            return code / 100 % 100;
        }

        static int bOf(int code) {
            return code % 100;
        }

        static int leastA(int kind) {
            return kind >= 0 && kind < KINDS ? LEAST_A[kind] : 0;
        }

        static int greatestA(int kind) {
            return kind >= 0 && kind < KINDS ? GREATEST_A[kind] : NONE;
        }

        static int greatestB(int kind, int a) {
            if (kind == COUNT) {
                return 4;
            }
            return kind == REST ? a - 1 : 0;
        }

        static boolean mayBeTold(int kind, int a, int b) {
            return kind >= 0 && kind < KINDS
                && a >= leastA(kind) && a <= greatestA(kind)
                && b >= 0 && b <= greatestB(kind, a);
        }

        static boolean sayYes(int code, Ticket ticket) {
            int a = aOf(code);
            int b = bOf(code);
            switch (kindOf(code)) {
                case HALVES: return ticket.halvesApart() <= a;
                case MIRROR: return ticket.unlikePairs() <= a;
                case COUNT: return ticket.timesThere(a) == b;
                case REST: return a > 0 && ticket.number % a == b;
                case RISING: return ticket.falls() <= a;
                default: return false;
            }
        }
    }

    /** THE TRAM: what is told of it, and all that is done to it (section 2, and the days). */
    private static final class Tram {
        static final int KIND = 0, KEPT = 1, LUCKY_KEPT = 2, EATEN = 3, TORN = 4, RIDER_CELLS = 5;
        static final int ROLL_CELLS = 2;
        static final int EATER = 1, WARY = 2, PASSER = 3;

        final int[] rules = new int[MAX_RULES];
        final int[] rolls = new int[MAX_ROLLS * ROLL_CELLS];
        final int[] riders = new int[MAX_RIDERS * RIDER_CELLS];
        int figures;
        int mode;
        int days;
        int ruleCount;
        int rollCount;
        int riderCount;

        void clear() {
            figures = 0;
            mode = ALL;
            days = 0;
            ruleCount = 0;
            rollCount = 0;
            riderCount = 0;
        }

        void copyFrom(Tram other) {
            figures = other.figures;
            mode = other.mode;
            days = other.days;
            ruleCount = other.ruleCount;
            rollCount = other.rollCount;
            riderCount = other.riderCount;
            System.arraycopy(other.rules, 0, rules, 0, rules.length);
            System.arraycopy(other.rolls, 0, rolls, 0, rolls.length);
            System.arraycopy(other.riders, 0, riders, 0, riders.length);
        }

        void addRule(int code) {
            if (ruleCount < MAX_RULES) {
                rules[ruleCount] = code;
                ruleCount++;
            }
        }

        void addRoll(int ticket, int left) {
            if (rollCount < MAX_ROLLS) {
                putRoll(rollCount, ticket, left);
                rollCount++;
            }
        }

        void addRider(int kind) {
            if (riderCount < MAX_RIDERS) {
                int first = riderCount * RIDER_CELLS;
                for (int what = 0; what < RIDER_CELLS; what++) {
                    riders[first + what] = 0;
                }
                riders[first + KIND] = kind;
                riderCount++;
            }
        }

        /** How many numbers there are; 0 without a TRAM. */
        int numbers() {
            int howMany = figures == 0 ? 0 : 1;
            for (int k = 0; k < figures && k < 4; k++) {
                howMany *= 10;
            }
            return howMany;
        }

        boolean hasNumber(int n) {
            return n >= 0 && n < numbers();
        }

        boolean hasRule(int r) {
            return r >= 0 && r < ruleCount;
        }

        boolean hasRoll(int r) {
            return r >= 0 && r < rollCount;
        }

        boolean hasRider(int p) {
            return p >= 0 && p < riderCount;
        }

        int nextTicket(int r) {
            return rolls[r * ROLL_CELLS];
        }

        int ticketsLeft(int r) {
            return rolls[r * ROLL_CELLS + 1];
        }

        int riderCell(int p, int what) {
            return riders[p * RIDER_CELLS + what];
        }

        int behind(int ticket) {
            return ticket + 1 < numbers() ? ticket + 1 : 0;
        }

        void putRoll(int r, int ticket, int left) {
            rolls[r * ROLL_CELLS] = ticket;
            rolls[r * ROLL_CELLS + 1] = left;
        }

        void takeTicket(int r) {
            putRoll(r, behind(nextTicket(r)), ticketsLeft(r) - 1);
        }

        void handOver(int p, boolean isLucky) {
            int kind = riderCell(p, KIND);
            if (isLucky && kind == EATER) {
                countOneMore(p, EATEN);
            } else if (isLucky && kind == WARY) {
                countOneMore(p, TORN);
            } else if (!isLucky && kind == PASSER) {
                keepTicket(p + 1 < riderCount ? p + 1 : 0, false);
            } else {
                keepTicket(p, isLucky);
            }
        }

        void keepTicket(int p, boolean isLucky) {
            countOneMore(p, KEPT);
            if (isLucky) {
                countOneMore(p, LUCKY_KEPT);
            }
        }

        void giveLucky(int p, int q) {
            riders[p * RIDER_CELLS + KEPT]--;
            riders[p * RIDER_CELLS + LUCKY_KEPT]--;
            keepTicket(q, true);
        }

        void countOneMore(int p, int what) {
            int cell = p * RIDER_CELLS + what;
            riders[cell] = Math.min(MAX_COUNTED, riders[cell] + 1);
        }

        int luckiestRider() {
            int luckiest = NONE;
            int most = NONE;
            for (int p = 0; p < riderCount; p++) {
                int had = riderCell(p, LUCKY_KEPT) + riderCell(p, EATEN);
                if (had > most) {
                    luckiest = p;
                    most = had;
                }
            }
            return luckiest;
        }
    }

    /** Reads THE TEXT into a tram of its own, so that a fault leaves the other one as it was. */
    private static final class Reader {
        static final int CANNOT_STAND = 1, OUT_OF_BOUNDS = 2, TOO_MANY = 3, NONE_OF_KIND = 4;
        static final int MAX_FIGURES = 4;

        final Text text = new Text();
        final Tram out = new Tram();
        int at;
        int numberAt;
        int faultKind;
        int faultAt;
        boolean modeTold;

        void readText() {
            out.clear();
            at = 0;
            faultKind = 0;
            faultAt = NONE;
            modeTold = false;
            skipBlanks();
            for (int i = 0; i < MAX_LETTERS && at < text.length && faultKind == 0; i++) {
                readClause();
                skipBlanks();
            }
        }

        /** Only the first one counts: of a clause the faults are looked for from the front. */
        void setFault(int kind, int place) {
            if (faultKind == 0) {
                faultKind = kind;
                faultAt = place;
            }
        }

        void skipBlanks() {
            for (int i = 0; i < MAX_LETTERS && text.letterAt(at) == ' '; i++) {
                at++;
            }
        }

        void readClause() {
            char word = text.letterAt(at);
            if (!mayStand(word)) {
                setFault(CANNOT_STAND, at);
                return;
            }
            if (isOneTooMany(word)) {
                setFault(TOO_MANY, at);
                return;
            }
            at++;
            switch (word) {
                case 'd': readFigures(); break;
                case 'm': readMode(); break;
                case 'r': readRule(); break;
                case 'n': readRoll(); break;
                default: readRider(); break;
            }
            readEnd();
        }

        boolean mayStand(char word) {
            if (out.figures == 0) {
                return word == 'd';
            }
            return word == 'd' || word == 'm' || word == 'r' || word == 'n' || word == 'p';
        }

        boolean isOneTooMany(char word) {
            switch (word) {
                case 'd': return out.figures != 0;
                case 'm': return modeTold;
                case 'r': return out.ruleCount == MAX_RULES;
                case 'n': return out.rollCount == MAX_ROLLS;
                default: return out.riderCount == MAX_RIDERS;
            }
        }

        void readFigures() {
            int figures = readNumber(2, MAX_FIGURES);
            if (faultKind == 0) {
                out.figures = figures;
            }
        }

        void readMode() {
            out.mode = readNumber(ALL, ANY);
            modeTold = true;
        }

        void readRule() {
            int kind = readNumber(0, Rules.KINDS - 1);
            int a = readNumber(0, 99);
            int aAt = numberAt;
            int b = readNumber(0, 99);
            if (faultKind == 0 && !Rules.mayBeTold(kind, a, b)) {
                setFault(NONE_OF_KIND, aAt);
            }
            if (faultKind == 0) {
                out.addRule(Rules.code(kind, a, b));
            }
        }

        void readRoll() {
            int ticket = readNumber(0, out.numbers() - 1);
            int left = readNumber(0, MAX_LEFT);
            if (faultKind == 0) {
                out.addRoll(ticket, left);
            }
        }

        void readRider() {
            int kind = readNumber(0, Tram.PASSER);
            if (faultKind == 0) {
                out.addRider(kind);
            }
        }

        void readEnd() {
            skipBlanks();
            if (text.letterAt(at) == ';') {
                at++;
            } else {
                setFault(CANNOT_STAND, at);
            }
        }

        /** The number that comes; where there is a fault, what it answers is not used. */
        int readNumber(int least, int greatest) {
            skipBlanks();
            numberAt = at;
            int value = 0;
            for (int i = 0; i < MAX_LETTERS && isFigure(text.letterAt(at)); i++) {
                if (at - numberAt < MAX_FIGURES) {
                    value = value * 10 + (text.letterAt(at) - '0');
                }
                at++;
            }
            if (at == numberAt) {
                setFault(CANNOT_STAND, at);
            } else if (at - numberAt > MAX_FIGURES || value < least || value > greatest) {
                setFault(OUT_OF_BOUNDS, numberAt);
            }
            return value;
        }

        boolean isFigure(char letter) {
            return letter >= '0' && letter <= '9';
        }
    }

    /** Which numbers are lucky, a bit each; a rule's row is made anew only when the rule changes. */
    private static final class LuckyTable {
        final long[][] yes = new long[MAX_RULES][WORDS];
        final int[] codes = new int[MAX_RULES];
        final long[] luckyBits = new long[WORDS];
        final Ticket ticket = new Ticket();
        int figures;
        int numbers;
        int words;
        int ruleCount;
        int mode;
        int count;

        void follow(Tram tram) {
            boolean otherFigures = figures != tram.figures;
            figures = tram.figures;
            numbers = tram.numbers();
            words = Math.min(WORDS, (numbers + 63) / 64);
            for (int r = 0; r < tram.ruleCount; r++) {
                if (otherFigures || r >= ruleCount || codes[r] != tram.rules[r]) {
                    codes[r] = tram.rules[r];
                    fillRow(r);
                }
            }
            ruleCount = tram.ruleCount;
            mode = tram.mode;
            count = 0;
            for (int w = 0; w < words; w++) {
                luckyBits[w] = joinedWord(w, NONE);
                count += Long.bitCount(luckyBits[w]);
            }
        }

        void fillRow(int r) {
            for (int w = 0; w < words; w++) {
                yes[r][w] = 0;
            }
            for (int n = 0; n < numbers; n++) {
                ticket.spell(n, figures);
                if (Rules.sayYes(codes[r], ticket)) {
                    yes[r][n >> 6] |= 1L << (n & 63);
                }
            }
        }

        long joinedWord(int w, int leftOut) {
            long all = -1L;
            long any = 0L;
            boolean some = false;
            for (int r = 0; r < ruleCount; r++) {
                if (r != leftOut) {
                    all &= yes[r][w];
                    any |= yes[r][w];
                    some = true;
                }
            }
            if (!some) {
                return 0L;
            }
            return mode == ANY ? any : all;
        }

        int countWithout(int r) {
            int howMany = 0;
            for (int w = 0; w < words; w++) {
                howMany += Long.bitCount(joinedWord(w, r));
            }
            return howMany;
        }

        boolean isLucky(int n) {
            return n >= 0 && n < numbers && (luckyBits[n >> 6] >> (n & 63) & 1L) != 0;
        }

        /** A SET of rules. */
        int rulesSayingYes(int n) {
            int set = 0;
            for (int r = 0; r < ruleCount; r++) {
                if ((yes[r][n >> 6] >> (n & 63) & 1L) != 0) {
                    set |= 1 << r;
                }
            }
            return set;
        }

        int nextFrom(int n) {
            for (int i = n; i < numbers; i++) {
                if (isLucky(i)) {
                    return i;
                }
            }
            return NONE;
        }

        int countBetween(int a, int b) {
            int howMany = 0;
            for (int i = a; i <= b && i < numbers; i++) {
                if (isLucky(i)) {
                    howMany++;
                }
            }
            return howMany;
        }

        /** The lucky number ahead of which there are k. */
        int numberAfter(int k) {
            int ahead = 0;
            for (int i = 0; i < numbers; i++) {
                if (isLucky(i)) {
                    if (ahead == k) {
                        return i;
                    }
                    ahead++;
                }
            }
            return NONE;
        }

        int lowerOfLongestWait() {
            int lower = NONE;
            int longest = 0;
            int before = NONE;
            for (int i = 0; i < numbers; i++) {
                if (isLucky(i)) {
                    if (before != NONE && i - before > longest) {
                        lower = before;
                        longest = i - before;
                    }
                    before = i;
                }
            }
            return lower;
        }
    }

    /** What can be undone: a ring, so that the oldest is the one that is lost. */
    private static final class Past {
        final Tram[] ring = new Tram[MAX_UNDONE];
        int newest;
        int count;

        Past() {
            for (int i = 0; i < MAX_UNDONE; i++) {
                ring[i] = new Tram();
            }
        }

        void remember(Tram tram) {
            newest = newest + 1 < MAX_UNDONE ? newest + 1 : 0;
            ring[newest].copyFrom(tram);
            count = Math.min(MAX_UNDONE, count + 1);
        }

        void takeBack(Tram tram) {
            if (count > 0) {
                tram.copyFrom(ring[newest]);
                newest = newest > 0 ? newest - 1 : MAX_UNDONE - 1;
                count--;
            }
        }
    }

    /** The rules that COULD BE: those left over by all that was seen. */
    private static final class Guess {
        static final int QUESTIONS = 100;

        final int[] codes = new int[Rules.MAY_BE_TOLD];
        final Ticket ticket = new Ticket();
        int count;
        int seen;
        int figures;
        int question = NONE;
        boolean questionKnown;

        /** Nothing is seen, so all rules could be; none without a TRAM. */
        void forget(int figureCount) {
            figures = figureCount;
            seen = 0;
            count = 0;
            questionKnown = false;
            if (figures == 0) {
                return;
            }
            for (int kind = 0; kind < Rules.KINDS; kind++) {
                for (int a = Rules.leastA(kind); a <= Rules.greatestA(kind); a++) {
                    addRules(kind, a);
                }
            }
        }

        void addRules(int kind, int a) {
            for (int b = 0; b <= Rules.greatestB(kind, a); b++) {
                if (count < codes.length) {
                    codes[count] = Rules.code(kind, a, b);
                    count++;
                }
            }
        }

        void takeIn(int n, boolean wasLucky) {
            ticket.spell(n, figures);
            int left = 0;
            for (int i = 0; i < count; i++) {
                if (Rules.sayYes(codes[i], ticket) == wasLucky) {
                    codes[left] = codes[i];
                    left++;
                }
            }
            count = left;
            seen++;
            questionKnown = false;
        }

        /** ASK: held until more is seen, as it looks at every rule for every number. */
        int bestQuestion() {
            if (!questionKnown) {
                question = findQuestion();
                questionKnown = true;
            }
            return question;
        }

        int findQuestion() {
            int best = NONE;
            int leastPart = count;
            for (int n = 0; n < QUESTIONS; n++) {
                int part = greaterPart(n);
                if (part < leastPart) {
                    best = n;
                    leastPart = part;
                }
            }
            return best;
        }

        int greaterPart(int n) {
            ticket.spell(n, figures);
            int luckyPart = 0;
            for (int i = 0; i < count; i++) {
                if (Rules.sayYes(codes[i], ticket)) {
                    luckyPart++;
                }
            }
            return Math.max(luckyPart, count - luckyPart);
        }
    }

    private static final class Book {
        final int[] numbers = new int[MAX_BOOK];
        final boolean[] saidLucky = new boolean[MAX_BOOK];
        int count;

        boolean add(int n, boolean isLucky) {
            if (count >= MAX_BOOK) {
                return false;
            }
            numbers[count] = n;
            saidLucky[count] = isLucky;
            count++;
            return true;
        }
    }

    private static final class Image {
        final Tram then = new Tram();
        boolean isKept;
        long seedThen;
    }
}
