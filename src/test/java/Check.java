/** What the tests share: texts fed letter by letter, answers compared, the end with its exit code. */
final class Check {
    static final int NONE = -1, UNKNOWN = -1000000001, OUTSIDE = -1000000002, NOT = -1000000003, FULL = -1000000004;

    private int wrong;
    private int looked;
    private String part = "";

    void part(String name) {
        part = name;
    }

    void due(String call, long got, long want) {
        looked++;
        if (got != want) {
            wrong++;
            System.out.println(part + ": " + call + " answered " + got + ", due is " + want);
        }
    }

    void holds(String what, boolean so) {
        looked++;
        if (!so) {
            wrong++;
            System.out.println(part + ": it does not hold that " + what);
        }
    }

    void end() {
        System.out.println(looked + " answers looked at, " + wrong + " of them wrong");
        if (wrong != 0) {
            System.exit(1);
        }
    }

    static void feed(LuckyTickets x, String text) {
        for (int i = 0; i < text.length(); i++) {
            x.feed(text.charAt(i));
        }
    }

    /** A new object with that tram. */
    static LuckyTickets of(String text) {
        LuckyTickets x = new LuckyTickets();
        feed(x, text);
        int riders = x.tram();
        if (riders < 0) {
            throw new IllegalStateException("the text has a fault: " + text);
        }
        return x;
    }
}
