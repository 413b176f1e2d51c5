/** The boundary cases of promises 5 to 17: what is asked of the tram, and what is done. */
final class BoundsOfCalls {
    private final Sentences s;
    private final Check check;

    BoundsOfCalls(Sentences sentences) {
        s = sentences;
        check = s.check;
    }

    void test() {
        told();
        ruleOf();
        rollOf();
        rider();
        lucky();
        sell();
        line();
        give();
        rule();
        mode();
        roll();
        drift();
        undo();
    }

    private void told() {
        s.about("Promise 5", "0 FIGURES (0 without a TRAM), 1 MODE, 2 RULES, 3 ROLLS, 4 RIDERS, 5 letters of THE TEXT, 6 DAYS");
        LuckyTickets most = Check.of("d4;m1;" + "r0 0 0;".repeat(4) + "n0 0;".repeat(4) + "p0;".repeat(5));
        most.drift(60);
        most.feed(' ');
        LuckyTickets none = new LuckyTickets();
        int[] want = {4, 1, 4, 4, 5, 1, 60};
        for (int what = 0; what < want.length; what++) {
            check.due("told(" + what + ")", most.told(what), want[what]);
            check.due("told(" + what + ") without a TRAM", none.told(what), 0);
        }

        s.about("Promise 5", "7 how many numbers are LUCKY, 8 BEST, 9 LUCKIEST, 10 what is SEEN");
        check.due("all are LUCKY", Check.of("d4;r0 36 0;").told(7), 10000);
        check.due("none is", Check.of("d4;r0 36 0;r2 0 4;r2 1 4;").told(7), 0);
        check.due("BEST, the last", Check.of("d2;r0 0 0;n0 0;n0 0;n0 0;n0 1;").told(8), 3);
        check.due("LUCKIEST, the first", Check.of("d2;p0;p0;").told(9), 0);
        LuckyTickets full = Check.of("d2;n0 200;p0;");
        for (int i = 0; i < 20; i++) {
            full.see(0, true);
            full.write(0, true);
            full.sell(0, 0);
        }
        check.due("SEEN", full.told(10), 8);

        s.about("Promise 5", "11 how many RULES COULD BE, 12 ASK, 13 entries of THE BOOK, 14 how many can be undone.");
        check.due("all COULD BE", Check.of("d2;").told(11), 171);
        check.due("none COULD BE without a TRAM", new LuckyTickets().told(11), 0);
        check.due("ASK without a TRAM", new LuckyTickets().told(12), Check.NONE);
        check.due("entries", full.told(13), 15);
        check.due("can be undone", full.told(14), 16);

        s.about("Promise 5", "OUTSIDE.");
        check.due("told(-1)", full.told(-1), Check.OUTSIDE);
        check.due("told(0)", full.told(0), 2);
        check.due("told(14)", full.told(14), 16);
        check.due("told(15)", full.told(15), Check.OUTSIDE);
        check.due("told(-1) without a TRAM", new LuckyTickets().told(-1), Check.OUTSIDE);
        check.due("told(15) without a TRAM", new LuckyTickets().told(15), Check.OUTSIDE);
    }

    private void ruleOf() {
        s.about("Promise 6", "Of a RULE: what = 0 KIND, 1 A, 2 B, 3 WITHOUT.");
        LuckyTickets x = Check.of("d4;r0 36 0;r2 9 4;r3 12 11;r4 3 0;");
        int[][] want = {{0, 36, 0}, {2, 9, 4}, {3, 12, 11}, {4, 3, 0}};
        for (int r = 0; r < 4; r++) {
            for (int what = 0; what < 3; what++) {
                check.due("ruleOf(" + r + ", " + what + ")", x.ruleOf(r, what), want[r][what]);
            }
        }
        check.due("WITHOUT the only RULE", Check.of("d4;r0 36 0;").ruleOf(0, 3), 90000);

        s.about("Promise 6", "UNKNOWN, OUTSIDE.");
        check.due("RULE -1", x.ruleOf(-1, 0), Check.UNKNOWN);
        check.due("RULE 4", x.ruleOf(4, 0), Check.UNKNOWN);
        check.due("what -1", x.ruleOf(3, -1), Check.OUTSIDE);
        check.due("what 4", x.ruleOf(3, 4), Check.OUTSIDE);
        check.due("RULE 4, what 4", x.ruleOf(4, 4), Check.UNKNOWN);
        check.due("RULE 0 of none", Check.of("d2;").ruleOf(0, 0), Check.UNKNOWN);
        check.due("RULE 1 of one", Check.of("d2;r0 0 0;").ruleOf(1, 0), Check.UNKNOWN);
        check.due("RULE 0 without a TRAM", new LuckyTickets().ruleOf(0, 0), Check.UNKNOWN);
    }

    private void rollOf() {
        s.about("Promise 7", "Of a ROLL: what = 0 the next TICKET, 1 how many are left, 2 SOON, 3 WHO, 4 PART above, 5 below.");
        LuckyTickets x = Check.of("d2;r2 7 2;n70 50;n78 200;n78 99;n99 0;p0;p0;p0;");
        int[][] want = {{70, 50, 7, 1, 1, 50}, {78, 200, 99, 0, 1, 100}, {78, 99, -1, -1, 0, 1}, {99, 0, -1, -1, 0, 1}};
        for (int r = 0; r < 4; r++) {
            for (int what = 0; what < 6; what++) {
                check.due("rollOf(" + r + ", " + what + ")", x.rollOf(r, what), want[r][what]);
            }
        }

        s.about("Promise 7", "UNKNOWN, OUTSIDE.");
        check.due("ROLL -1", x.rollOf(-1, 0), Check.UNKNOWN);
        check.due("ROLL 4", x.rollOf(4, 0), Check.UNKNOWN);
        check.due("what -1", x.rollOf(3, -1), Check.OUTSIDE);
        check.due("what 6", x.rollOf(3, 6), Check.OUTSIDE);
        check.due("ROLL 4, what 6", x.rollOf(4, 6), Check.UNKNOWN);
        check.due("ROLL 0 of none", Check.of("d2;").rollOf(0, 0), Check.UNKNOWN);
        check.due("ROLL 1 of one", Check.of("d2;n0 0;").rollOf(1, 0), Check.UNKNOWN);
        check.due("ROLL 0 without a TRAM", new LuckyTickets().rollOf(0, 0), Check.UNKNOWN);
    }

    private void rider() {
        s.about("Promise 8", "Of a RIDER: what = 0 KIND, 1 kept, 2 LUCKY kept, 3 eaten, 4 torn up.");
        LuckyTickets x = Check.of("d2;r0 36 0;n0 200;p0;p1;p2;p3;p0;");
        x.line(0, 4);
        int[][] want = {{0, 1, 1, 0, 0}, {1, 0, 0, 1, 0}, {2, 0, 0, 0, 1}, {3, 1, 1, 0, 0}, {0, 0, 0, 0, 0}};
        for (int p = 0; p < 5; p++) {
            for (int what = 0; what < 5; what++) {
                check.due("rider(" + p + ", " + what + ")", x.rider(p, what), want[p][what]);
            }
        }

        s.about("Promise 8", "UNKNOWN, OUTSIDE.");
        check.due("RIDER -1", x.rider(-1, 0), Check.UNKNOWN);
        check.due("RIDER 5", x.rider(5, 0), Check.UNKNOWN);
        check.due("what -1", x.rider(4, -1), Check.OUTSIDE);
        check.due("what -1 of RIDER 0", x.rider(0, -1), Check.OUTSIDE);
        check.due("what 5", x.rider(4, 5), Check.OUTSIDE);
        check.due("what 5 of RIDER 0", x.rider(0, 5), Check.OUTSIDE);
        check.due("RIDER 5, what 5", x.rider(5, 5), Check.UNKNOWN);
        check.due("RIDER 0 of none", Check.of("d2;").rider(0, 0), Check.UNKNOWN);
        check.due("RIDER 1 of one", Check.of("d2;p0;").rider(1, 0), Check.UNKNOWN);
        check.due("RIDER 0 without a TRAM", new LuckyTickets().rider(0, 0), Check.UNKNOWN);
    }

    private void lucky() {
        s.about("Promise 9", "Of a number (0 .. LAST): what = 0 whether it is LUCKY (1, 0), 1 RULES that say YES (a SET).");
        for (int d = 2; d <= 4; d++) {
            int last = Check.LASTS[d];
            LuckyTickets x = Check.of("d" + d + ";r3 2 0;r3 3 0;r0 36 0;r2 9 " + d + ";");
            check.due("0", x.lucky(0, 0), 0);
            check.due("0, SET", x.lucky(0, 1), 7);
            check.due("LAST", x.lucky(last, 0), 0);
            check.due("LAST, SET", x.lucky(last, 1), 14);
            check.due("-1", x.lucky(-1, 0), Check.OUTSIDE);
            check.due("-1, SET", x.lucky(-1, 1), Check.OUTSIDE);
            check.due("behind LAST", x.lucky(last + 1, 0), Check.OUTSIDE);
            check.due("behind LAST, SET", x.lucky(last + 1, 1), Check.OUTSIDE);
            check.due("LUCKY", Check.of("d" + d + ";r0 36 0;").lucky(last, 0), 1);
        }

        s.about("Promise 9", "OUTSIDE (without a TRAM, too).");
        LuckyTickets x = Check.of("d2;r0 36 0;");
        check.due("what -1", x.lucky(0, -1), Check.OUTSIDE);
        check.due("what 2", x.lucky(0, 2), Check.OUTSIDE);
        for (int what = 0; what <= 1; what++) {
            check.due("without a TRAM", new LuckyTickets().lucky(0, what), Check.OUTSIDE);
            check.due("a TRAM that is gone", Check.gone().lucky(0, what), Check.OUTSIDE);
        }
    }

    private void sell() {
        s.about("Promise 10", "SOLD: the TICKET.");
        LuckyTickets x = Check.of("d4;n0 1;n0 1;n0 1;n9999 1;p0;p0;p0;p0;p0;");
        check.due("0", x.sell(0, 0), 0);
        check.due("LAST, of the last ROLL, to the last RIDER", x.sell(3, 4), 9999);

        s.about("Promise 10", "UNKNOWN, NOT: none is left.");
        check.due("ROLL -1", x.sell(-1, 0), Check.UNKNOWN);
        check.due("ROLL 4", x.sell(4, 0), Check.UNKNOWN);
        check.due("RIDER -1", x.sell(1, -1), Check.UNKNOWN);
        check.due("RIDER 5", x.sell(1, 5), Check.UNKNOWN);
        check.due("none is left", x.sell(0, 0), Check.NOT);
        check.due("none is left, RIDER 5", x.sell(0, 5), Check.UNKNOWN);
        check.due("none is left, RIDER -1", x.sell(0, -1), Check.UNKNOWN);
        check.due("one is left", x.sell(1, 0), 0);
        check.due("no RIDERS", Check.of("d2;n0 9;").sell(0, 0), Check.UNKNOWN);
        check.due("no ROLLS", Check.of("d2;p0;").sell(0, 0), Check.UNKNOWN);
        check.due("without a TRAM", new LuckyTickets().sell(0, 0), Check.UNKNOWN);
    }

    private void line() {
        s.about("Promise 11", "A LINE of n (1 .. 60): how many of these are LUCKY.");
        LuckyTickets x = Check.of("d2;r0 36 0;n0 200;n0 60;n0 59;n0 0;p1;p2;");
        check.due("0", x.line(0, 0), Check.OUTSIDE);
        check.due("-1", x.line(0, -1), Check.OUTSIDE);
        check.due("1", x.line(0, 1), 1);
        check.due("60", x.line(0, 60), 60);
        check.due("61", x.line(0, 61), Check.OUTSIDE);
        check.due("none is LUCKY", Check.of("d2;n0 200;p0;").line(0, 60), 0);

        s.about("Promise 11", "UNKNOWN, OUTSIDE, NOT: no RIDERS, not so many left.");
        check.due("60 of 59", x.line(2, 60), Check.NOT);
        check.due("59 of 59", x.line(2, 59), 59);
        check.due("60 of 60", x.line(1, 60), 60);
        check.due("1 of 0", x.line(3, 1), Check.NOT);
        check.due("61 of 0", x.line(3, 61), Check.OUTSIDE);
        check.due("ROLL -1", x.line(-1, 1), Check.UNKNOWN);
        check.due("ROLL 4", x.line(4, 1), Check.UNKNOWN);
        check.due("ROLL 4, n 0", x.line(4, 0), Check.UNKNOWN);
        LuckyTickets nobody = Check.of("d2;n0 200;");
        check.due("no RIDERS", nobody.line(0, 1), Check.NOT);
        check.due("no RIDERS, n 0", nobody.line(0, 0), Check.OUTSIDE);
        check.due("no RIDERS, n 61", nobody.line(0, 61), Check.OUTSIDE);
        check.due("no RIDERS, ROLL 1", nobody.line(1, 1), Check.UNKNOWN);
        check.due("without a TRAM", new LuckyTickets().line(0, 1), Check.UNKNOWN);
    }

    private void give() {
        s.about("Promise 12", "GIVEN by p to q: LUCKY ones q has kept.");
        LuckyTickets x = Check.of("d2;r3 2 0;n0 200;p0;p0;p1;p0;p0;");
        x.line(0, 10);
        check.due("the last one of RIDER 0, to the last RIDER", x.give(0, 4), 2);
        check.due("one of two", x.give(4, 3), 2);
        check.due("the other one, to an eater", x.give(4, 2), 1);

        s.about("Promise 12", "UNKNOWN, NOT: p has kept none.");
        check.due("it had two and gave them", x.give(4, 0), Check.NOT);
        check.due("it has kept one that is not LUCKY", x.give(0, 1), Check.NOT);
        check.due("it has kept one, and eaten one", x.give(2, 1), 2);
        check.due("it has eaten one alone", x.give(2, 1), Check.NOT);
        check.due("RIDER -1", x.give(-1, 0), Check.UNKNOWN);
        check.due("RIDER 5", x.give(5, 0), Check.UNKNOWN);
        check.due("to RIDER -1", x.give(1, -1), Check.UNKNOWN);
        check.due("to RIDER 5", x.give(1, 5), Check.UNKNOWN);
        check.due("to RIDER 5, p has none", x.give(0, 5), Check.UNKNOWN);
        check.due("to itself", x.give(1, 1), Check.UNKNOWN);
        check.due("to itself, p has none", x.give(0, 0), Check.UNKNOWN);
        check.due("of one RIDER to itself", Check.of("d2;p0;").give(0, 0), Check.UNKNOWN);
        check.due("without a TRAM", new LuckyTickets().give(0, 1), Check.UNKNOWN);
    }

    private void rule() {
        s.about("Promise 13", "A RULE becomes another (as in 'r'): how many numbers are LUCKY then.");
        LuckyTickets x = Check.of("d4;" + "r0 36 0;".repeat(4));
        check.due("all", x.rule(0, 4, 3, 0), 10000);
        check.due("one", x.rule(3, 2, 9, 4), 1);
        check.due("none", x.rule(1, 2, 0, 4), 0);
        check.due("the same again", x.rule(1, 2, 0, 4), 0);
        check.due("all four can be undone", x.told(14), 4);

        s.about("Promise 13", "UNKNOWN, OUTSIDE (also A, B none of the KIND).");
        check.due("RULE -1", x.rule(-1, 0, 0, 0), Check.UNKNOWN);
        check.due("RULE 4", x.rule(4, 0, 0, 0), Check.UNKNOWN);
        check.due("KIND -1", x.rule(0, -1, 0, 0), Check.OUTSIDE);
        check.due("KIND 5", x.rule(0, 5, 0, 0), Check.OUTSIDE);
        check.due("A -1", x.rule(0, 0, -1, 0), Check.OUTSIDE);
        check.due("A 37 of HALVES", x.rule(0, 0, 37, 0), Check.OUTSIDE);
        check.due("A 100", x.rule(0, 0, 100, 0), Check.OUTSIDE);
        check.due("B -1", x.rule(0, 3, 2, -1), Check.OUTSIDE);
        check.due("B 2 of REST 2", x.rule(0, 3, 2, 2), Check.OUTSIDE);
        check.due("B 100", x.rule(0, 3, 2, 100), Check.OUTSIDE);
        check.due("A 100 more", x.rule(0, 2, 109, 0), Check.OUTSIDE);
        check.due("RULE 4, KIND 5", x.rule(4, 5, 0, 0), Check.UNKNOWN);
        check.due("of no RULES", Check.of("d2;").rule(0, 0, 0, 0), Check.UNKNOWN);
        check.due("without a TRAM", new LuckyTickets().rule(0, 0, 0, 0), Check.UNKNOWN);
    }

    private void mode() {
        s.about("Promise 14", "MODE: how many numbers are LUCKY then.");
        LuckyTickets x = Check.of("d4;r2 0 4;r0 36 0;");
        check.due("ANY", x.mode(1), 10000);
        check.due("ALL", x.mode(0), 1);
        check.due("of no RULES", Check.of("d2;").mode(1), 0);

        s.about("Promise 14", "OUTSIDE, NOT: no TRAM; it is so.");
        check.due("-1", x.mode(-1), Check.OUTSIDE);
        check.due("2", x.mode(2), Check.OUTSIDE);
        check.due("it is ALL", x.mode(0), Check.NOT);
        x.mode(1);
        check.due("it is ANY", x.mode(1), Check.NOT);
        check.due("no TRAM, 0", new LuckyTickets().mode(0), Check.NOT);
        check.due("no TRAM, 1", new LuckyTickets().mode(1), Check.NOT);
        check.due("no TRAM, 2", new LuckyTickets().mode(2), Check.OUTSIDE);
        check.due("a TRAM that is gone", Check.gone().mode(1), Check.NOT);
    }

    private void roll() {
        s.about("Promise 15", "A ROLL is put in anew (n 0 .. LAST, c 0 .. 200): how many were left.");
        for (int d = 2; d <= 4; d++) {
            int last = Check.LASTS[d];
            LuckyTickets x = Check.of("d" + d + ";n5 200;");
            check.due("n -1", x.roll(0, -1, 5), Check.OUTSIDE);
            check.due("n behind LAST", x.roll(0, last + 1, 5), Check.OUTSIDE);
            check.due("c -1", x.roll(0, 5, -1), Check.OUTSIDE);
            check.due("c 201", x.roll(0, 5, 201), Check.OUTSIDE);
            check.due("n 0, c 0", x.roll(0, 0, 0), 200);
            check.due("next TICKET", x.rollOf(0, 0), 0);
            check.due("n LAST, c 200", x.roll(0, last, 200), 0);
            check.due("next TICKET", x.rollOf(0, 0), last);
            check.due("left", x.rollOf(0, 1), 200);
        }

        s.about("Promise 15", "UNKNOWN, OUTSIDE.");
        LuckyTickets x = Check.of("d2;n1 1;n2 2;n3 3;n4 4;");
        check.due("ROLL -1", x.roll(-1, 0, 0), Check.UNKNOWN);
        check.due("ROLL 3", x.roll(3, 0, 0), 4);
        check.due("ROLL 4", x.roll(4, 0, 0), Check.UNKNOWN);
        check.due("ROLL 4, n 100", x.roll(4, 100, 0), Check.UNKNOWN);
        check.due("ROLL -1, c 201", x.roll(-1, 0, 201), Check.UNKNOWN);
        check.due("of no ROLLS", Check.of("d2;").roll(0, 0, 0), Check.UNKNOWN);
        check.due("without a TRAM", new LuckyTickets().roll(0, 0, 0), Check.UNKNOWN);
    }

    private void drift() {
        s.about("Promise 16", "n DAYS (1 .. 60) BY DRAWS: DAYS.");
        LuckyTickets x = Check.of("d2;n0 0;p0;");
        check.due("-1", x.drift(-1), Check.OUTSIDE);
        check.due("0", x.drift(0), Check.OUTSIDE);
        check.due("1", x.drift(1), 1);
        check.due("60", x.drift(60), 61);
        check.due("61", x.drift(61), Check.OUTSIDE);

        s.about("Promise 16", "OUTSIDE, NOT: no TRAM; FULL: DAYS are above 9000.");
        check.due("no TRAM", new LuckyTickets().drift(1), Check.NOT);
        check.due("no TRAM, 0", new LuckyTickets().drift(0), Check.OUTSIDE);
        check.due("no TRAM, 61", new LuckyTickets().drift(61), Check.OUTSIDE);
        check.due("a TRAM that is gone", Check.gone().drift(1), Check.NOT);
        LuckyTickets y = Check.of("d2;");
        for (int i = 1; i <= 150; i++) {
            check.due("drift(60)", y.drift(60), 60 * i);
        }
        check.due("9000 are not above", y.drift(60), 9060);
        check.due("9060 are", y.drift(1), Check.FULL);
        y.undo();
        check.due("9000 again", y.drift(1), 9001);
        check.due("9001 are", y.drift(1), Check.FULL);
        check.due("9001 are, 60", y.drift(60), Check.FULL);
        check.due("9001, 0", y.drift(0), Check.OUTSIDE);
        check.due("9001, 61", y.drift(61), Check.OUTSIDE);
        check.due("DAYS", y.told(6), 9001);
    }

    private void undo() {
        s.about("Promise 17", "The latest is undone: how many more can be.");
        LuckyTickets x = Check.of("d2;n0 100;p0;");
        for (int i = 0; i < 17; i++) {
            x.sell(0, 0);
        }
        for (int i = 15; i >= 0; i--) {
            check.due("undo", x.undo(), i);
            check.due("told(14)", x.told(14), i);
        }
        check.due("sixteen of seventeen", x.rollOf(0, 0), 1);

        s.about("Promise 17", "NOT: none.");
        check.due("no more", x.undo(), Check.NOT);
        check.due("what was refused is none", x.sell(0, 1) - x.undo(), Check.UNKNOWN - Check.NOT);
        check.due("nothing was done", Check.of("d2;n0 9;p0;").undo(), Check.NOT);
        check.due("without a TRAM", new LuckyTickets().undo(), Check.NOT);
        x.sell(0, 0);
        x.keep(0);
        check.due("behind keep()", x.undo(), Check.NOT);
        x.sell(0, 0);
        x.goBack(0);
        check.due("behind goBack()", x.undo(), Check.NOT);
        x.sell(0, 0);
        x.tram();
        check.due("behind tram()", x.undo(), Check.NOT);
    }
}
