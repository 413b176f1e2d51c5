/** What the tests share: texts fed letter by letter, answers compared, the end with its exit code. */
final class Check {
    static final int NONE = -1, UNKNOWN = -1000000001, OUTSIDE = -1000000002, NOT = -1000000003, FULL = -1000000004;

    /** LAST, by how many FIGURES there are. */
    static final int[] LASTS = {0, 0, 99, 999, 9999};

    private int wrong;
    private int looked;
    private String part = "";

    void part(String name) {
        part = name;
    }

    void due(String call, long got, long want) {
        looked++;
        if (got != want) {
            wrong++;
            System.out.println(part + ": " + call + " answered " + got + ", due is " + want);
        }
    }

    void holds(String what, boolean so) {
        looked++;
        if (!so) {
            wrong++;
            System.out.println(part + ": it does not hold that " + what);
        }
    }

    int looked() {
        return looked;
    }

    /** A text that has no fault, with so many riders. */
    void good(String text, int riders) {
        LuckyTickets x = new LuckyTickets();
        feed(x, text);
        due("tram of " + text, x.tram(), riders);
        due("fault of " + text, x.fault(), NONE);
        due("letters left of " + text, x.told(5), 0);
    }

    /** A text, the first fault of which is that one, at that letter. */
    void bad(String text, int kind, int place) {
        LuckyTickets x = new LuckyTickets();
        feed(x, text);
        due("tram of " + text, x.tram(), -10 - kind);
        due("fault of " + text, x.fault(), place);
        due("letters left of " + text, x.told(5), 0);
        due("figures of " + text, x.told(0), 0);
    }

    /** What is counted of a rider. */
    void riderIs(LuckyTickets x, int p, int kept, int luckyKept, int eaten, int torn) {
        int[] want = {kept, luckyKept, eaten, torn};
        for (int what = 1; what <= 4; what++) {
            due("rider(" + p + ", " + what + ")", x.rider(p, what), want[what - 1]);
        }
    }

    void end() {
        System.out.println(looked + " answers looked at, " + wrong + " of them wrong");
        if (wrong != 0) {
            System.exit(1);
        }
    }

    static void feed(LuckyTickets x, String text) {
        for (int i = 0; i < text.length(); i++) {
            x.feed(text.charAt(i));
        }
    }

    /** A new object with that tram. */
    static LuckyTickets of(String text) {
        LuckyTickets x = new LuckyTickets();
        feed(x, text);
        int riders = x.tram();
        if (riders < 0) {
            throw new IllegalStateException("the text has a fault: " + text);
        }
        return x;
    }

    /** It had a TRAM, which an empty text took away. */
    static LuckyTickets gone() {
        LuckyTickets x = of("d4;r0 36 0;n0 9;p0;p0;");
        x.tram();
        return x;
    }
}
