import java.util.function.IntPredicate;

/** The boundary cases of the days BY DRAWS (section 3), with the draws told once more. */
final class BoundsOfDraws {
    private static final String HERE = "Section 3";
    private static final String TRAM = "d2;n0 50;n50 50;p0;p0;p0;";

    private final Sentences s;
    private final Check check;

    BoundsOfDraws(Sentences sentences) {
        s = sentences;
        check = s.check;
    }

    void test() {
        seed();
        days();
        sales();
        rolls();
    }

    private static int seedAfter(int seed, int draws) {
        long now = seed;
        for (int i = 0; i < draws; i++) {
            now = (now * 1103515245L + 12345L) & 0x7fffffffL;
        }
        return (int) now;
    }

    /** The i-th draw from that seed, from 1 on. */
    private static int draw(int seed, int i, int n) {
        return seedAfter(seed, i) / 65536 % n;
    }

    private static int firstSeed(IntPredicate isSo) {
        int seed = 0;
        while (!isSo.test(seed)) {
            seed++;
        }
        return seed;
    }

    private int seedOf(LuckyTickets x) {
        int seed = x.seed(0);
        x.seed(seed);
        return seed;
    }

    private void seed() {
        s.about(HERE, "BY DRAWS: THE SEED (0 at first:");
        check.due("a new object", new LuckyTickets().seed(5), 0);
        LuckyTickets first = Check.of("d2;n0 0;p0;");
        first.drift(1);
        check.due("drawn from 0", seedOf(first), seedAfter(0, draw(0, 1, 4) == 3 ? 4 : 3));

        s.about(HERE, "each DRAW it becomes it times 1103515245 and 12345, left over by 2 to the 31;");
        for (int from : new int[] {0, 1, 2147483646, 2147483647, 1073741824}) {
            LuckyTickets x = Check.of(TRAM);
            x.seed(from);
            x.drift(1);
            check.due("from " + from, seedOf(x), seedAfter(from, draw(from, 1, 4) == 3 ? 4 : 3));
        }
        int zero = firstSeed(v -> seedAfter(v, 3) < 65536 && draw(v, 1, 4) != 3);
        LuckyTickets low = Check.of(TRAM);
        low.seed(zero);
        low.drift(1);
        check.due("to a small one", seedOf(low), seedAfter(zero, 3));

        s.about(HERE, "the DRAW of n is it / 65536, left over by n)");
        for (int r = 0; r <= 1; r++) {
            for (int p = 0; p <= 2; p++) {
                int roll = r;
                int rider = p;
                int from = firstSeed(v -> draw(v, 1, 4) == 0 && draw(v, 2, 2) == roll && draw(v, 3, 3) == rider);
                LuckyTickets x = Check.of(TRAM);
                x.seed(from);
                x.drift(1);
                check.due("one is sold of ROLL " + r, x.rollOf(r, 1), 49);
                check.due("none is sold of the other", x.rollOf(1 - r, 1), 50);
                check.due("to RIDER " + p, x.rider(p, 1), 1);
            }
        }
    }

    private void days() {
        s.about(HERE, "n DAYS (counted, 0 at first)");
        LuckyTickets x = Check.of("d2;");
        check.due("at first", x.told(6), 0);
        check.due("one", x.drift(1), 1);
        check.due("60 more", x.drift(60), 61);
        check.due("counted", x.told(6), 61);

        s.about(HERE, "for each, if there are ROLLS and RIDERS, a DRAW of 4, of ROLLS, of RIDERS");
        for (String text : new String[] {"d2;", "d2;n0 9;", "d2;p0;", "d2;r0 0 0;m1;"}) {
            LuckyTickets none = Check.of(text);
            none.seed(99);
            check.due("days of " + text, none.drift(60), 60);
            check.due("no DRAW for " + text, none.seed(0), 99);
        }
        LuckyTickets one = Check.of("d2;n0 200;p0;");
        int from = firstSeed(v -> draw(v, 1, 4) != 3);
        one.seed(from);
        one.drift(1);
        check.due("three DRAWS for one of each", seedOf(one), seedAfter(from, 3));
        check.due("sold", one.rollOf(0, 1), 199);
    }

    private void sales() {
        s.about(HERE, "on 0, 1, 2 a TICKET is SOLD so, if one is left");
        for (int deed = 0; deed <= 2; deed++) {
            int on = deed;
            int from = firstSeed(v -> draw(v, 1, 4) == on);
            for (int left = 0; left <= 2; left++) {
                LuckyTickets x = Check.of("d2;n99 " + left + ";p0;");
                x.seed(from);
                x.drift(1);
                check.due("left of " + left + " on " + on, x.rollOf(0, 1), Math.max(0, left - 1));
                check.due("next TICKET of " + left + " on " + on, x.rollOf(0, 0), left == 0 ? 99 : 0);
                check.due("kept of " + left + " on " + on, x.rider(0, 1), Math.min(1, left));
                check.due("three DRAWS of " + left + " on " + on, seedOf(x), seedAfter(from, 3));
            }
        }
    }

    private void rolls() {
        s.about(HERE, "on 3 the ROLL is put in anew from a DRAW of all numbers, with 50.");
        for (int d = 2; d <= 4; d++) {
            int numbers = (int) Math.pow(10, d);
            for (int n : new int[] {0, numbers - 1}) {
                int from = firstSeed(v -> draw(v, 1, 4) == 3 && draw(v, 4, numbers) == n);
                LuckyTickets x = Check.of("d" + d + ";n7 200;p0;");
                x.seed(from);
                x.drift(1);
                check.due("next TICKET of D " + d, x.rollOf(0, 0), n);
                check.due("left of D " + d, x.rollOf(0, 1), 50);
                check.due("kept of D " + d, x.rider(0, 1), 0);
                check.due("four DRAWS of D " + d, seedOf(x), seedAfter(from, 4));
            }
        }
        int from = firstSeed(v -> draw(v, 1, 4) == 3);
        LuckyTickets empty = Check.of("d2;n7 0;p0;");
        empty.seed(from);
        empty.drift(1);
        check.due("where none was left", empty.rollOf(0, 1), 50);
    }
}
