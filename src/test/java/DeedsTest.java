/** Promises 10 to 17: sell, line, give, rule, mode, roll, drift and undo. */
public final class DeedsTest {
    private static final Check check = new Check();

    public static void main(String[] args) {
        selling();
        passing();
        sellingRefused();
        lines();
        linesRefused();
        giving();
        countsEnd();
        rules();
        modes();
        rolls();
        drifting();
        driftingByHand();
        driftingWithoutRolls();
        driftingEnds();
        undoing();
        undoingEach();
        undoingSixteen();
        check.end();
    }

    private static void selling() {
        check.part("promise 10, sell by kinds");
        LuckyTickets x = Check.of("d2;r3 2 0;n98 20;p0;p1;p2;p3;");
        for (int p = 0; p < 4; p++) {
            check.due("a lucky one", x.sell(0, p), (98 + 2 * p) % 100);
            check.due("another one", x.sell(0, p), (99 + 2 * p) % 100);
        }
        check.due("left", x.rollOf(0, 1), 12);
        check.due("next", x.rollOf(0, 0), 6);
        check.riderIs(x, 0, 3, 1, 0, 0);
        check.riderIs(x, 1, 1, 0, 1, 0);
        check.riderIs(x, 2, 1, 0, 0, 1);
        check.riderIs(x, 3, 1, 1, 0, 0);
    }

    private static void passing() {
        check.part("promise 10, passers");
        LuckyTickets x = Check.of("d2;r3 2 0;n1 20;p3;p3;p1;");
        x.sell(0, 0);
        check.riderIs(x, 0, 0, 0, 0, 0);
        check.riderIs(x, 1, 1, 0, 0, 0);
        x.roll(0, 1, 20);
        x.sell(0, 1);
        check.riderIs(x, 2, 1, 0, 0, 0);
        LuckyTickets alone = Check.of("d2;r3 2 0;n1 20;p3;");
        alone.sell(0, 0);
        check.riderIs(alone, 0, 1, 0, 0, 0);
        alone.sell(0, 0);
        check.riderIs(alone, 0, 2, 1, 0, 0);
    }

    private static void sellingRefused() {
        check.part("promise 10, refused");
        LuckyTickets x = Check.of("d2;n1 1;n0 0;p0;");
        check.due("no such roll", x.sell(2, 0), Check.UNKNOWN);
        check.due("no such roll", x.sell(-1, 0), Check.UNKNOWN);
        check.due("no such rider", x.sell(0, 1), Check.UNKNOWN);
        check.due("no such rider", x.sell(0, -1), Check.UNKNOWN);
        check.due("UNKNOWN comes ahead of NOT", x.sell(1, 1), Check.UNKNOWN);
        check.due("none left", x.sell(1, 0), Check.NOT);
        check.due("nothing to undo", x.told(14), 0);
        check.due("the last one", x.sell(0, 0), 1);
        check.due("none left", x.sell(0, 0), Check.NOT);
        check.due("no tram", new LuckyTickets().sell(0, 0), Check.UNKNOWN);
    }

    private static void lines() {
        check.part("promise 11, line");
        LuckyTickets x = Check.of("d2;r3 3 0;n97 100;p0;p1;p2;p3;p0;");
        check.due("line(0, 13)", x.line(0, 13), 5);
        // 97 98 99* 0* 1 | 2 3* 4 5 6* | 7 8 9*: 99 to rider 2, 0 to 3, 3 to 1, 6 to 4, 9 to 2
        check.riderIs(x, 0, 3, 0, 0, 0);
        check.riderIs(x, 1, 2, 0, 1, 0);
        check.riderIs(x, 2, 1, 0, 0, 2);
        check.riderIs(x, 3, 1, 1, 0, 0);
        check.riderIs(x, 4, 3, 1, 0, 0);
        check.due("left", x.rollOf(0, 1), 87);
        check.due("next", x.rollOf(0, 0), 10);
        check.due("each line starts with rider 0", x.line(0, 1), 0);
        check.riderIs(x, 0, 4, 0, 0, 0);
        check.due("one call, one to undo", x.told(14), 2);
    }

    private static void linesRefused() {
        check.part("promise 11, refused");
        LuckyTickets x = Check.of("d2;r0 36 0;n0 100;n0 59;p0;");
        check.due("no such roll", x.line(2, 1), Check.UNKNOWN);
        check.due("no such roll", x.line(-1, 1), Check.UNKNOWN);
        check.due("UNKNOWN comes ahead of OUTSIDE", x.line(2, 0), Check.UNKNOWN);
        check.due("none", x.line(0, 0), Check.OUTSIDE);
        check.due("too many", x.line(0, 61), Check.OUTSIDE);
        check.due("OUTSIDE comes ahead of NOT", x.line(1, 61), Check.OUTSIDE);
        check.due("not so many left", x.line(1, 60), Check.NOT);
        check.due("all that are left", x.line(1, 59), 59);
        check.due("60", x.line(0, 60), 60);
        check.due("40", x.line(0, 41), Check.NOT);
        check.due("nothing changes", x.rollOf(0, 1), 40);
        LuckyTickets nobody = Check.of("d2;n0 100;");
        check.due("no riders", nobody.line(0, 1), Check.NOT);
        check.due("no riders, OUTSIDE first", nobody.line(0, 0), Check.OUTSIDE);
    }

    private static void giving() {
        check.part("promise 12, give");
        LuckyTickets x = Check.of("d2;r3 2 0;n0 100;p0;p1;p2;");
        check.due("none kept", x.give(0, 1), Check.NOT);
        x.sell(0, 0);
        x.sell(0, 0);
        x.sell(0, 0);
        check.due("to itself", x.give(0, 0), Check.UNKNOWN);
        check.due("no such rider", x.give(0, 3), Check.UNKNOWN);
        check.due("no such rider", x.give(-1, 0), Check.UNKNOWN);
        check.due("UNKNOWN comes ahead of NOT", x.give(1, 1), Check.UNKNOWN);
        check.due("to an eater", x.give(0, 1), 1);
        check.riderIs(x, 0, 2, 1, 0, 0);
        check.riderIs(x, 1, 1, 1, 0, 0);
        check.due("again", x.give(0, 1), 2);
        check.riderIs(x, 0, 1, 0, 0, 0);
        check.riderIs(x, 1, 2, 2, 0, 0);
        check.due("no lucky one left", x.give(0, 1), Check.NOT);
        check.due("to a wary one", x.give(1, 2), 1);
        check.riderIs(x, 2, 1, 1, 0, 0);
        check.due("what was done", x.told(14), 6);
        x.mode(1);
        x.rule(0, 2, 0, 0);
        check.due("lucky when it was sold", x.give(2, 0), 1);
    }

    private static void countsEnd() {
        check.part("counts end at 9999");
        String[] kinds = {"0", "1", "2"};
        int[] what = {2, 3, 4};
        for (int k = 0; k < kinds.length; k++) {
            LuckyTickets x = Check.of("d2;r0 36 0;n0 200;p" + kinds[k] + ";");
            for (int i = 0; i < 55; i++) {
                sellMany(x);
            }
            x.line(0, 60);
            x.line(0, 20);
            check.due("9980", x.rider(0, what[k]), 9980);
            x.line(0, 19);
            check.due("9999", x.rider(0, what[k]), 9999);
            x.sell(0, 0);
            check.due("no more", x.rider(0, what[k]), 9999);
            check.due("kept", x.rider(0, 1), k == 0 ? 9999 : 0);
            x.undo();
            check.due("undone", x.rider(0, what[k]), 9999);
            x.undo();
            check.due("undone", x.rider(0, what[k]), 9980);
        }
        LuckyTickets x = Check.of("d2;r0 36 0;n0 200;p0;p0;");
        for (int i = 0; i < 112; i++) {
            sellMany(x);
        }
        check.due("both are full", x.rider(1, 2), 9999);
        check.due("give to one who is full", x.give(0, 1), 9999);
        check.riderIs(x, 0, 9998, 9998, 0, 0);
        check.riderIs(x, 1, 9999, 9999, 0, 0);
    }

    /** 180 in four calls: few enough that an object's 512 calls are not used up. */
    private static void sellMany(LuckyTickets x) {
        x.line(0, 60);
        x.line(0, 60);
        x.line(0, 60);
        x.roll(0, 0, 200);
    }

    private static void rules() {
        check.part("promise 13, rule");
        LuckyTickets x = Check.of("d2;r3 2 0;r3 3 0;");
        check.due("all of both", x.told(7), 17);
        check.due("rule(1, 3, 5, 0)", x.rule(1, 3, 5, 0), 10);
        check.due("how many then", x.told(7), 10);
        check.due("its A", x.ruleOf(1, 1), 5);
        check.due("the other one's A", x.ruleOf(0, 1), 2);
        check.due("the same again", x.rule(1, 3, 5, 0), 10);
        check.due("both can be undone", x.told(14), 2);
        check.due("no such rule", x.rule(2, 0, 0, 0), Check.UNKNOWN);
        check.due("no such rule", x.rule(-1, 0, 0, 0), Check.UNKNOWN);
        check.due("UNKNOWN comes ahead of OUTSIDE", x.rule(2, 9, 0, 0), Check.UNKNOWN);
        int[][] none = {{-1, 0, 0}, {5, 0, 0}, {0, -1, 0}, {0, 37, 0}, {0, 0, 1}, {0, 0, -1}, {1, 3, 0}, {1, 0, 1},
            {2, 10, 0}, {2, 0, 5}, {2, 0, -1}, {3, 1, 0}, {3, 0, 0}, {3, 13, 0}, {3, 2, 2}, {3, 2, -1}, {4, 4, 0}, {4, 0, 1}};
        for (int[] rule : none) {
            check.due("rule " + rule[0] + " " + rule[1] + " " + rule[2], x.rule(0, rule[0], rule[1], rule[2]), Check.OUTSIDE);
        }
        int[][] some = {{0, 36, 0}, {1, 2, 0}, {2, 9, 4}, {3, 12, 11}, {4, 3, 0}};
        int[] count = {20, 20, 0, 2, 20};
        for (int i = 0; i < some.length; i++) {
            check.due("rule " + some[i][0], x.rule(0, some[i][0], some[i][1], some[i][2]), count[i]);
        }
        check.due("what was refused is not to undo", x.told(14), 7);
        check.due("kind", x.ruleOf(0, 0), 4);
    }

    private static void modes() {
        check.part("promise 14, mode");
        LuckyTickets x = Check.of("d2;r3 2 0;r3 3 0;");
        check.due("it is so", x.mode(0), Check.NOT);
        check.due("any", x.mode(1), 67);
        check.due("it is so", x.mode(1), Check.NOT);
        check.due("all", x.mode(0), 17);
        check.due("outside", x.mode(2), Check.OUTSIDE);
        check.due("outside", x.mode(-1), Check.OUTSIDE);
        check.due("two to undo", x.told(14), 2);
        check.due("no tram", new LuckyTickets().mode(1), Check.NOT);
        check.due("no tram", new LuckyTickets().mode(0), Check.NOT);
        check.due("no tram, OUTSIDE first", new LuckyTickets().mode(2), Check.OUTSIDE);
        check.due("no rules", Check.of("d2;").mode(1), 0);
    }

    private static void rolls() {
        check.part("promise 15, roll");
        LuckyTickets x = Check.of("d3;n0 7;n5 6;");
        check.due("roll(0, 999, 200)", x.roll(0, 999, 200), 7);
        check.due("next", x.rollOf(0, 0), 999);
        check.due("left", x.rollOf(0, 1), 200);
        check.due("the other one", x.rollOf(1, 0), 5);
        check.due("roll(0, 0, 0)", x.roll(0, 0, 0), 200);
        check.due("above LAST", x.roll(0, 1000, 0), Check.OUTSIDE);
        check.due("below 0", x.roll(0, -1, 0), Check.OUTSIDE);
        check.due("too many", x.roll(0, 0, 201), Check.OUTSIDE);
        check.due("too few", x.roll(0, 0, -1), Check.OUTSIDE);
        check.due("no such roll", x.roll(2, 0, 0), Check.UNKNOWN);
        check.due("UNKNOWN comes ahead of OUTSIDE", x.roll(-1, -1, 0), Check.UNKNOWN);
        check.due("two to undo", x.told(14), 2);
    }

    private static void drifting() {
        check.part("promise 16, drift");
        LuckyTickets x = Check.of("d2;n0 7;p0;");
        check.due("drift(1)", x.drift(1), 1);
        check.due("drift(60)", x.drift(60), 61);
        check.due("drift(0)", x.drift(0), Check.OUTSIDE);
        check.due("drift(61)", x.drift(61), Check.OUTSIDE);
        check.due("drift(-1)", x.drift(-1), Check.OUTSIDE);
        check.due("days", x.told(6), 61);
        check.due("two to undo", x.told(14), 2);
        check.due("no tram", new LuckyTickets().drift(1), Check.NOT);
        check.due("no tram, OUTSIDE first", new LuckyTickets().drift(61), Check.OUTSIDE);
    }

    /** The days told once more, with nothing of the class but what is sold and put in. */
    private static void driftingByHand() {
        check.part("promise 16, draws");
        int[] seeds = {0, 1, 5, 12345, 2147483647, 1000000007};
        for (int start : seeds) {
            LuckyTickets x = Check.of("d3;r3 3 1;n990 9;n4 2;n17 0;p0;p3;p1;p2;");
            LuckyTickets y = Check.of("d3;r3 3 1;n990 9;n4 2;n17 0;p0;p3;p1;p2;");
            x.seed(start);
            java.math.BigInteger seed = java.math.BigInteger.valueOf(start);
            check.due("60 days", x.drift(60), 60);
            for (int day = 0; day < 60; day++) {
                int[] drawn = new int[4];
                int[] of = {4, 3, 4, 1000};
                for (int k = 0; k < 4 && (k < 3 || drawn[0] == 3); k++) {
                    seed = seed.multiply(java.math.BigInteger.valueOf(1103515245)).add(java.math.BigInteger.valueOf(12345))
                        .mod(java.math.BigInteger.ONE.shiftLeft(31));
                    drawn[k] = seed.intValueExact() / 65536 % of[k];
                }
                if (drawn[0] == 3) {
                    y.roll(drawn[1], drawn[3], 50);
                } else {
                    y.sell(drawn[1], drawn[2]);
                }
            }
            check.due("the seed", x.seed(0), seed.intValueExact());
            for (int r = 0; r < 3; r++) {
                check.due("roll " + r, x.rollOf(r, 0), y.rollOf(r, 0));
                check.due("left of roll " + r, x.rollOf(r, 1), y.rollOf(r, 1));
            }
            for (int p = 0; p < 4; p++) {
                check.riderIs(x, p, y.rider(p, 1), y.rider(p, 2), y.rider(p, 3), y.rider(p, 4));
            }
        }
    }

    private static void driftingWithoutRolls() {
        check.part("promise 16, nothing to draw");
        for (String text : new String[] {"d2;", "d2;n0 9;", "d2;p0;", "d2;r0 0 0;"}) {
            LuckyTickets x = Check.of(text);
            x.seed(99);
            check.due("drift", x.drift(9), 9);
            check.due("the seed stays", x.seed(0), 99);
            check.due("to undo", x.undo(), 0);
            check.due("days", x.told(6), 0);
        }
    }

    private static void driftingEnds() {
        check.part("promise 16, FULL");
        LuckyTickets x = Check.of("d2;");
        for (int i = 1; i <= 150; i++) {
            check.due("drift(60)", x.drift(60), 60 * i);
        }
        check.due("9000 are not above 9000", x.drift(60), 9060);
        check.due("FULL", x.drift(1), Check.FULL);
        check.due("OUTSIDE comes ahead of FULL", x.drift(0), Check.OUTSIDE);
        check.due("days", x.told(6), 9060);
        check.due("undone", x.undo(), 15);
        check.due("days", x.told(6), 9000);
        check.due("again", x.drift(1), 9001);
        check.due("FULL at 9001", x.drift(1), Check.FULL);
    }

    private static void undoing() {
        check.part("promise 17, undo");
        LuckyTickets x = Check.of("d2;r3 2 0;r3 3 0;n0 100;p0;p1;");
        check.due("none", x.undo(), Check.NOT);
        x.sell(0, 5);
        x.line(0, 61);
        x.give(0, 1);
        x.mode(0);
        x.roll(0, 100, 0);
        x.drift(0);
        x.rule(0, 7, 7, 7);
        check.due("what was refused is not undone", x.undo(), Check.NOT);
        x.see(5, true);
        x.write(5, true);
        x.seed(3);
        x.next(0);
        check.due("what is seen and written is not undone", x.undo(), Check.NOT);
        x.drift(20);
        int seed = x.seed(0);
        x.seed(seed);
        check.due("undo", x.undo(), 0);
        check.due("the seed stays", x.seed(0), seed);
        check.due("the days are as ahead of it", x.told(6), 0);
        check.due("the roll is", x.rollOf(0, 1), 100);
        check.due("seen", x.told(10), 1);
        check.due("book", x.told(13), 1);
    }

    private static int state(LuckyTickets x) {
        int sum = x.told(1) * 31 + x.told(6) * 7 + x.told(7);
        for (int r = 0; r < 2; r++) {
            for (int what = 0; what < 3; what++) {
                sum = sum * 31 + x.ruleOf(r, what);
            }
            sum = sum * 31 + x.rollOf(r, 0) * 300 + x.rollOf(r, 1);
        }
        for (int p = 0; p < 3; p++) {
            for (int what = 1; what < 5; what++) {
                sum = sum * 31 + x.rider(p, what);
            }
        }
        for (int n = 0; n < 100; n++) {
            sum = sum * 31 + x.lucky(n, 0);
        }
        return sum;
    }

    private static int deed(LuckyTickets x, int which) {
        switch (which) {
            case 0: return x.sell(0, 0);
            case 1: return x.line(1, 17);
            case 2: return x.give(0, 1);
            case 3: return x.rule(1, 2, 7, 1);
            case 4: return x.mode(1);
            case 5: return x.roll(0, 55, 44);
            default: return x.drift(33);
        }
    }

    private static void undoingEach() {
        check.part("promise 17, each of seven");
        LuckyTickets x = Check.of("d2;r3 2 0;r3 3 0;n0 100;n50 60;p0;p1;p3;");
        int[] before = new int[7];
        for (int i = 0; i < 7; i++) {
            before[i] = state(x);
            check.holds("deed " + i + " is not refused", deed(x, i) >= 0);
            check.due("to undo", x.told(14), i + 1);
        }
        for (int i = 6; i >= 0; i--) {
            check.due("undo", x.undo(), i);
            check.due("as ahead of deed " + i, state(x), before[i]);
        }
        check.due("no more", x.undo(), Check.NOT);
    }

    private static void undoingSixteen() {
        check.part("promise 17, sixteen at most");
        LuckyTickets x = Check.of("d2;n0 100;p0;");
        for (int i = 0; i < 50; i++) {
            x.sell(0, 0);
            check.due("to undo", x.told(14), Math.min(16, i + 1));
        }
        for (int i = 15; i >= 0; i--) {
            check.due("undo", x.undo(), i);
            check.due("next", x.rollOf(0, 0), 34 + i);
        }
        check.due("the oldest are lost", x.undo(), Check.NOT);
        check.due("next", x.rollOf(0, 0), 34);
    }
}
