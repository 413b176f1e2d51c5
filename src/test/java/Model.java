import java.math.BigInteger;
import java.util.ArrayDeque;
import java.util.ArrayList;
import java.util.Arrays;
import java.util.Deque;
import java.util.List;

/** The document told a second time, slowly: everything is looked for anew at each call, nothing is held ready. */
final class Model {
    static final int NONE = -1, UNKNOWN = -1000000001, OUTSIDE = -1000000002, NOT = -1000000003, FULL = -1000000004;

    /** All of section 2, and the days. */
    private static final class State {
        int figures, mode, days;
        List<int[]> rules = new ArrayList<>();
        List<int[]> rolls = new ArrayList<>();
        List<int[]> riders = new ArrayList<>();

        State copy() {
            State other = new State();
            other.figures = figures;
            other.mode = mode;
            other.days = days;
            rules.forEach(row -> other.rules.add(row.clone()));
            rolls.forEach(row -> other.rolls.add(row.clone()));
            riders.forEach(row -> other.riders.add(row.clone()));
            return other;
        }
    }

    private String text = "";
    private State s = new State();
    private int faultPlace = NONE;
    private final Deque<State> past = new ArrayDeque<>();
    private final State[] image = new State[2];
    private final int[] imageSeed = new int[2];
    private int seed = 0;
    private final List<int[]> seen = new ArrayList<>();
    private final List<int[]> book = new ArrayList<>();

    // ---- the text: a list of all faults that can be found, the first and least of which counts

    private List<int[]> faults;
    private int place;

    private void blanks() {
        while (place < text.length() && text.charAt(place) == ' ') {
            place++;
        }
    }

    /** null behind a letter that can't stand there. */
    private int[] number(int low, int high) {
        blanks();
        int from = place;
        while (place < text.length() && "0123456789".indexOf(text.charAt(place)) >= 0) {
            place++;
        }
        if (from == place) {
            faults.add(new int[] {from, 1});
            return null;
        }
        BigInteger value = new BigInteger(text.substring(from, place));
        boolean good = place - from <= 4 && value.compareTo(BigInteger.valueOf(low)) >= 0
            && value.compareTo(BigInteger.valueOf(high)) <= 0;
        if (!good) {
            faults.add(new int[] {from, 2});
        }
        return new int[] {good ? value.intValue() : low, from, good ? 1 : 0};
    }

    static boolean isRule(int k, int a, int b) {
        return switch (k) {
            case 0 -> a >= 0 && a <= 36 && b == 0;
            case 1 -> a >= 0 && a <= 2 && b == 0;
            case 2 -> a >= 0 && a <= 9 && b >= 0 && b <= 4;
            case 3 -> a >= 2 && a <= 12 && b >= 0 && b < a;
            case 4 -> a >= 0 && a <= 3 && b == 0;
            default -> false;
        };
    }

    private State parse() {
        State t = new State();
        faults = new ArrayList<>();
        place = 0;
        boolean modeTold = false;
        for (blanks(); place < text.length(); blanks()) {
            char word = text.charAt(place);
            if ("dmrnp".indexOf(word) < 0 || t.figures == 0 && word != 'd') {
                faults.add(new int[] {place, 1});
                return t;
            }
            if (word == 'd' && t.figures != 0 || word == 'm' && modeTold || word == 'r' && t.rules.size() == 4
                || word == 'n' && t.rolls.size() == 4 || word == 'p' && t.riders.size() == 5) {
                faults.add(new int[] {place, 3});
            }
            place++;
            int[][] bounds = switch (word) {
                case 'd' -> new int[][] {{2, 4}};
                case 'm' -> new int[][] {{0, 1}};
                case 'r' -> new int[][] {{0, 4}, {0, 99}, {0, 99}};
                case 'n' -> new int[][] {{0, count(t) - 1}, {0, 200}};
                default -> new int[][] {{0, 3}};
            };
            int[][] told = new int[bounds.length][];
            for (int i = 0; i < bounds.length; i++) {
                told[i] = number(bounds[i][0], bounds[i][1]);
                if (told[i] == null) {
                    return t;
                }
            }
            if (word == 'r' && told[0][2] + told[1][2] + told[2][2] == 3 && !isRule(told[0][0], told[1][0], told[2][0])) {
                faults.add(new int[] {told[1][1], 4});
            }
            blanks();
            if (place == text.length() || text.charAt(place) != ';') {
                faults.add(new int[] {place, 1});
                return t;
            }
            place++;
            switch (word) {
                case 'd' -> t.figures = told[0][0];
                case 'm' -> { t.mode = told[0][0]; modeTold = true; }
                case 'r' -> t.rules.add(new int[] {told[0][0], told[1][0], told[2][0]});
                case 'n' -> t.rolls.add(new int[] {told[0][0], told[1][0]});
                default -> t.riders.add(new int[] {told[0][0], 0, 0, 0, 0});
            }
        }
        return t;
    }

    int feed(int letter) {
        if (letter < 0 || letter > 255) {
            return OUTSIDE;
        }
        if (text.length() == 240) {
            return FULL;
        }
        text += (char) letter;
        return text.length();
    }

    int tram() {
        State t = parse();
        text = "";
        if (!faults.isEmpty()) {
            faults.sort((x, y) -> x[0] != y[0] ? x[0] - y[0] : x[1] - y[1]);
            faultPlace = faults.get(0)[0];
            return -10 - faults.get(0)[1];
        }
        faultPlace = NONE;
        s = t;
        past.clear();
        seen.clear();
        book.clear();
        Arrays.fill(image, null);
        return s.riders.size();
    }

    int fault() {
        return faultPlace;
    }

    // ---- lucky ones

    private static int count(State s) {
        return s.figures == 0 ? 0 : (int) Math.pow(10, s.figures);
    }

    private static String spell(int n, int figures) {
        String plain = Integer.toString(n);
        return "0".repeat(figures - plain.length()) + plain;
    }

    static boolean yes(int[] rule, int n, int figures) {
        String t = spell(n, figures);
        int half = figures / 2;
        String back = new StringBuilder(t).reverse().toString();
        switch (rule[0]) {
            case 0: {
                int front = t.substring(0, half).chars().map(c -> c - '0').sum();
                int end = t.substring(figures - half).chars().map(c -> c - '0').sum();
                return Math.abs(front - end) <= rule[1];
            }
            case 1: {
                int unlike = 0;
                for (int k = 0; k < half; k++) {
                    unlike += t.charAt(k) == back.charAt(k) ? 0 : 1;
                }
                return unlike <= rule[1];
            }
            case 2: return t.chars().filter(c -> c - '0' == rule[1]).count() == rule[2];
            case 3: return n % rule[1] == rule[2];
            default: {
                int falls = 0;
                for (int k = 1; k < figures; k++) {
                    falls += t.charAt(k) < t.charAt(k - 1) ? 1 : 0;
                }
                return falls <= rule[1];
            }
        }
    }

    private boolean isLucky(List<int[]> rules, int n) {
        if (rules.isEmpty()) {
            return false;
        }
        return s.mode == 0 ? rules.stream().allMatch(r -> yes(r, n, s.figures))
            : rules.stream().anyMatch(r -> yes(r, n, s.figures));
    }

    private boolean isLucky(int n) {
        return isLucky(s.rules, n);
    }

    private List<Integer> luckyOnes(List<int[]> rules) {
        List<Integer> all = new ArrayList<>();
        for (int n = 0; n < count(s); n++) {
            if (isLucky(rules, n)) {
                all.add(n);
            }
        }
        return all;
    }

    private List<int[]> couldBe() {
        List<int[]> all = new ArrayList<>();
        for (int k = 0; k < 5 && s.figures > 0; k++) {
            for (int a = 0; a < 100; a++) {
                for (int b = 0; b < 100; b++) {
                    int[] rule = {k, a, b};
                    if (isRule(k, a, b) && seen.stream().allMatch(e -> yes(rule, e[0], s.figures) == (e[1] == 1))) {
                        all.add(rule);
                    }
                }
            }
        }
        return all;
    }

    private int ask() {
        List<int[]> could = couldBe();
        int best = NONE;
        long least = Long.MAX_VALUE;
        for (int n = 0; n < 100 && n < count(s); n++) {
            int number = n;
            long y = could.stream().filter(r -> yes(r, number, s.figures)).count();
            long part = Math.max(y, could.size() - y);
            if (part < least && y > 0 && y < could.size()) {
                best = n;
                least = part;
            }
        }
        return best;
    }

    private int soon(int r) {
        int[] roll = s.rolls.get(r);
        for (int i = 0; i < roll[1]; i++) {
            if (isLucky((roll[0] + i) % count(s))) {
                return i;
            }
        }
        return NONE;
    }

    private int best() {
        int best = NONE;
        for (int r = 0; r < s.rolls.size(); r++) {
            if (soon(r) != NONE && (best == NONE || soon(r) < soon(best))) {
                best = r;
            }
        }
        return best;
    }

    private int luckiest() {
        int best = NONE;
        for (int p = 0; p < s.riders.size(); p++) {
            int[] x = s.riders.get(p);
            if (best == NONE || x[2] + x[3] > s.riders.get(best)[2] + s.riders.get(best)[3]) {
                best = p;
            }
        }
        return best;
    }

    int told(int what) {
        return switch (what) {
            case 0 -> s.figures;
            case 1 -> s.mode;
            case 2 -> s.rules.size();
            case 3 -> s.rolls.size();
            case 4 -> s.riders.size();
            case 5 -> text.length();
            case 6 -> s.days;
            case 7 -> luckyOnes(s.rules).size();
            case 8 -> best();
            case 9 -> luckiest();
            case 10 -> seen.size();
            case 11 -> couldBe().size();
            case 12 -> ask();
            case 13 -> book.size();
            case 14 -> past.size();
            default -> OUTSIDE;
        };
    }

    private static boolean has(List<int[]> rows, int i) {
        return i >= 0 && i < rows.size();
    }

    int ruleOf(int r, int what) {
        if (!has(s.rules, r)) {
            return UNKNOWN;
        }
        if (what < 0 || what > 3) {
            return OUTSIDE;
        }
        if (what < 3) {
            return s.rules.get(r)[what];
        }
        List<int[]> others = new ArrayList<>(s.rules);
        others.remove(r);
        return luckyOnes(others).size() - luckyOnes(s.rules).size() + 100000;
    }

    int rollOf(int r, int what) {
        if (!has(s.rolls, r)) {
            return UNKNOWN;
        }
        int[] roll = s.rolls.get(r);
        int above = 0;
        for (int i = 0; i < roll[1]; i++) {
            above += isLucky((roll[0] + i) % count(s)) ? 1 : 0;
        }
        int common = BigInteger.valueOf(above).gcd(BigInteger.valueOf(roll[1])).intValue();
        return switch (what) {
            case 0, 1 -> roll[what];
            case 2 -> soon(r);
            case 3 -> soon(r) == NONE || s.riders.isEmpty() ? NONE : soon(r) % s.riders.size();
            case 4 -> above == 0 ? 0 : above / common;
            case 5 -> above == 0 ? 1 : roll[1] / common;
            default -> OUTSIDE;
        };
    }

    int rider(int p, int what) {
        if (!has(s.riders, p)) {
            return UNKNOWN;
        }
        return what < 0 || what > 4 ? OUTSIDE : s.riders.get(p)[what];
    }

    private boolean inside(int n) {
        return n >= 0 && n < count(s);
    }

    int lucky(int n, int what) {
        if (!inside(n) || what < 0 || what > 1) {
            return OUTSIDE;
        }
        if (what == 0) {
            return isLucky(n) ? 1 : 0;
        }
        int set = 0;
        for (int r = 0; r < s.rules.size(); r++) {
            set += yes(s.rules.get(r), n, s.figures) ? 1 << r : 0;
        }
        return set;
    }

    // ---- what is done

    private void remember() {
        past.addLast(s.copy());
        if (past.size() > 16) {
            past.removeFirst();
        }
    }

    private void more(int p, int what) {
        int[] row = s.riders.get(p);
        row[what] = row[what] == 9999 ? 9999 : row[what] + 1;
    }

    private int sellOne(int r, int p) {
        int[] roll = s.rolls.get(r);
        int n = roll[0];
        roll[0] = (n + 1) % count(s);
        roll[1]--;
        boolean lucky = isLucky(n);
        int kind = s.riders.get(p)[0];
        if (lucky) {
            if (kind == 1) {
                more(p, 3);
            } else if (kind == 2) {
                more(p, 4);
            } else {
                more(p, 1);
                more(p, 2);
            }
        } else {
            more(kind == 3 ? (p + 1) % s.riders.size() : p, 1);
        }
        return n;
    }

    int sell(int r, int p) {
        if (!has(s.rolls, r) || !has(s.riders, p)) {
            return UNKNOWN;
        }
        if (s.rolls.get(r)[1] == 0) {
            return NOT;
        }
        remember();
        return sellOne(r, p);
    }

    int line(int r, int n) {
        if (!has(s.rolls, r)) {
            return UNKNOWN;
        }
        if (n < 1 || n > 60) {
            return OUTSIDE;
        }
        if (s.riders.isEmpty() || s.rolls.get(r)[1] < n) {
            return NOT;
        }
        remember();
        int lucky = 0;
        for (int i = 0; i < n; i++) {
            lucky += isLucky(sellOne(r, i % s.riders.size())) ? 1 : 0;
        }
        return lucky;
    }

    int give(int p, int q) {
        if (!has(s.riders, p) || !has(s.riders, q) || p == q) {
            return UNKNOWN;
        }
        if (s.riders.get(p)[2] == 0) {
            return NOT;
        }
        remember();
        s.riders.get(p)[1]--;
        s.riders.get(p)[2]--;
        more(q, 1);
        more(q, 2);
        return s.riders.get(q)[2];
    }

    int rule(int r, int kind, int a, int b) {
        if (!has(s.rules, r)) {
            return UNKNOWN;
        }
        if (!isRule(kind, a, b)) {
            return OUTSIDE;
        }
        remember();
        s.rules.set(r, new int[] {kind, a, b});
        return told(7);
    }

    int mode(int q) {
        if (q < 0 || q > 1) {
            return OUTSIDE;
        }
        if (s.figures == 0 || s.mode == q) {
            return NOT;
        }
        remember();
        s.mode = q;
        return told(7);
    }

    int roll(int r, int n, int c) {
        if (!has(s.rolls, r)) {
            return UNKNOWN;
        }
        if (!inside(n) || c < 0 || c > 200) {
            return OUTSIDE;
        }
        remember();
        int left = s.rolls.get(r)[1];
        s.rolls.set(r, new int[] {n, c});
        return left;
    }

    private int draw(int n) {
        seed = BigInteger.valueOf(seed).multiply(BigInteger.valueOf(1103515245)).add(BigInteger.valueOf(12345))
            .mod(BigInteger.TWO.pow(31)).intValue();
        return seed / 65536 % n;
    }

    int drift(int n) {
        if (n < 1 || n > 60) {
            return OUTSIDE;
        }
        if (s.figures == 0) {
            return NOT;
        }
        if (s.days > 9000) {
            return FULL;
        }
        remember();
        for (int i = 0; i < n; i++) {
            s.days++;
            if (!s.rolls.isEmpty() && !s.riders.isEmpty()) {
                int deed = draw(4);
                int r = draw(s.rolls.size());
                int p = draw(s.riders.size());
                if (deed == 3) {
                    s.rolls.set(r, new int[] {draw(count(s)), 50});
                } else if (s.rolls.get(r)[1] > 0) {
                    sellOne(r, p);
                }
            }
        }
        return s.days;
    }

    int undo() {
        if (past.isEmpty()) {
            return NOT;
        }
        s = past.removeLast();
        return past.size();
    }

    // ---- tried

    int next(int n) {
        if (!inside(n)) {
            return OUTSIDE;
        }
        return luckyOnes(s.rules).stream().filter(i -> i >= n).findFirst().orElse(NONE);
    }

    int upTo(int a, int b) {
        if (!inside(a) || !inside(b)) {
            return OUTSIDE;
        }
        return (int) luckyOnes(s.rules).stream().filter(i -> i >= a && i <= b).count();
    }

    int kth(int k) {
        if (k < 0) {
            return OUTSIDE;
        }
        List<Integer> all = luckyOnes(s.rules);
        return k < all.size() ? all.get(k) : NONE;
    }

    int waits(int what) {
        if (what < 0 || what > 1) {
            return OUTSIDE;
        }
        List<Integer> all = luckyOnes(s.rules);
        int most = NONE;
        int lower = NONE;
        for (int i = 1; i < all.size(); i++) {
            if (all.get(i) - all.get(i - 1) > most) {
                most = all.get(i) - all.get(i - 1);
                lower = all.get(i - 1);
            }
        }
        return what == 0 ? most : lower;
    }

    int dry(int n, int q) {
        if (n < 0 || n > 60 || q < 0 || q > 100) {
            return OUTSIDE;
        }
        BigInteger x = BigInteger.valueOf(1000000000);
        for (int i = 0; i < n; i++) {
            x = x.multiply(BigInteger.valueOf(q)).divide(BigInteger.valueOf(100));
        }
        return x.intValue();
    }

    // ---- what is seen

    int see(int n, boolean lucky) {
        if (!inside(n)) {
            return OUTSIDE;
        }
        if (seen.size() == 8) {
            return FULL;
        }
        seen.add(new int[] {n, lucky ? 1 : 0});
        return seen.size();
    }

    int could(int i, int what) {
        if (what < 0 || what > 2) {
            return OUTSIDE;
        }
        List<int[]> could = couldBe();
        return has(could, i) ? could.get(i)[what] : NONE;
    }

    int write(int n, boolean lucky) {
        if (!inside(n)) {
            return OUTSIDE;
        }
        if (book.size() == 15) {
            return FULL;
        }
        book.add(new int[] {n, lucky ? 1 : 0});
        return book.size();
    }

    int tear() {
        int had = seen.size() + book.size();
        seen.clear();
        book.clear();
        return had;
    }

    int judge() {
        for (int i = 0; i < book.size(); i++) {
            if (isLucky(book.get(i)[0]) != (book.get(i)[1] == 1)) {
                return i;
            }
        }
        return NONE;
    }

    // ---- draws, images

    int seed(int v) {
        if (v < 0) {
            return OUTSIDE;
        }
        int was = seed;
        seed = v;
        return was;
    }

    int keep(int i) {
        if (i < 0 || i > 1) {
            return UNKNOWN;
        }
        image[i] = s.copy();
        imageSeed[i] = seed;
        past.clear();
        return 1;
    }

    int goBack(int i) {
        if (i < 0 || i > 1) {
            return UNKNOWN;
        }
        if (image[i] == null) {
            return NOT;
        }
        s = image[i].copy();
        seed = imageSeed[i];
        past.clear();
        return 1;
    }
}
