/** The boundary cases of section 2: what the rules say, and who keeps what was sold. */
final class BoundsOfRules {
    private static final String HERE = "Section 2";

    private final Sentences s;
    private final Check check;

    BoundsOfRules(Sentences sentences) {
        s = sentences;
        check = s.check;
    }

    void test() {
        halves();
        mirror();
        count();
        rest();
        rising();
        lucky();
        sold();
        passed();
        counted();
        lines();
        changed();
    }

    /** Whether such a rule may be told, in the text and by rule(). */
    private void may(int kind, int a, int b, boolean may) {
        String rule = kind + " " + a + " " + b;
        LuckyTickets x = Check.of("d2;r0 0 0;");
        int answer = x.rule(0, kind, a, b);
        check.holds("rule(0, " + rule + ") is " + may + ": " + answer, may ? answer >= 0 : answer == Check.OUTSIDE);
        if (a >= 0 && b >= 0 && may) {
            check.good("d2;r" + rule + ";", 0);
        } else if (a >= 0 && b >= 0) {
            check.bad("d2;r" + rule + ";", 4, 6);
        }
    }

    private void says(int figures, String rule, int n, int yes) {
        LuckyTickets x = Check.of("d" + figures + ";r" + rule + ";");
        check.due("d" + figures + " r" + rule + " of " + n, x.lucky(n, 1), yes);
    }

    private void halves() {
        s.about(HERE, "0 HALVES (A 0 .. 36, B 0)");
        may(0, -1, 0, false);
        may(0, 0, 0, true);
        may(0, 36, 0, true);
        may(0, 37, 0, false);
        may(0, 36, 1, false);
        may(0, 0, 1, false);
        may(0, 0, -1, false);

        s.about(HERE, "the sum of the first D / 2 (cut) and that of the last D / 2 differ by A at most.");
        says(4, "0 0 0", 1902, 0);
        says(4, "0 0 0", 1928, 1);
        says(4, "0 17 0", 9900, 0);
        says(4, "0 18 0", 9900, 1);
        says(4, "0 17 0", 99, 0);
        says(4, "0 18 0", 99, 1);
        says(4, "0 4 0", 1207, 1);
        says(4, "0 4 0", 1208, 0);
        // of three figures the one in the middle counts for neither
        says(3, "0 0 0", 191, 1);
        says(3, "0 8 0", 90, 1);
        says(3, "0 8 0", 900, 0);
        says(3, "0 9 0", 900, 1);
        says(2, "0 8 0", 90, 0);
        says(2, "0 9 0", 90, 1);
    }

    private void mirror() {
        s.about(HERE, "1 MIRROR (A 0 .. 2, B 0)");
        may(1, -1, 0, false);
        may(1, 0, 0, true);
        may(1, 2, 0, true);
        may(1, 3, 0, false);
        may(1, 2, 1, false);
        may(1, 0, -1, false);

        s.about(HERE, "of D / 2 pairs (the k-th from the front and the k-th from the end) A at most are unlike.");
        says(4, "1 0 0", 1221, 1);
        says(4, "1 0 0", 1231, 0);
        says(4, "1 0 0", 1222, 0);
        says(4, "1 1 0", 1231, 1);
        says(4, "1 1 0", 1232, 0);
        says(4, "1 2 0", 1232, 1);
        says(3, "1 0 0", 191, 1);
        says(3, "1 0 0", 192, 0);
        says(3, "1 1 0", 192, 1);
        says(2, "1 0 0", 10, 0);
        says(2, "1 0 0", 0, 1);
        says(2, "1 1 0", 10, 1);
    }

    private void count() {
        s.about(HERE, "2 COUNT (A 0 .. 9, B 0 .. 4)");
        may(2, -1, 0, false);
        may(2, 0, 0, true);
        may(2, 9, 0, true);
        may(2, 10, 0, false);
        may(2, 0, -1, false);
        may(2, 9, 4, true);
        may(2, 9, 5, false);

        s.about(HERE, "the FIGURE A is there just B times.");
        says(4, "2 7 1", 770, 0);
        says(4, "2 7 2", 770, 1);
        says(4, "2 7 3", 770, 0);
        says(4, "2 7 0", 770, 0);
        says(4, "2 7 0", 1689, 1);
        says(4, "2 9 4", 9999, 1);
        says(4, "2 0 4", 0, 1);
        says(4, "2 0 3", 9, 1);
        says(3, "2 0 3", 0, 1);
        check.due("four of three figures", Check.of("d3;r2 7 4;").told(7), 0);
        check.due("three of two figures", Check.of("d2;r2 7 3;").told(7), 0);
    }

    private void rest() {
        s.about(HERE, "3 REST (A 2 .. 12, B below A)");
        may(3, -1, 0, false);
        may(3, 0, 0, false);
        may(3, 1, 0, false);
        may(3, 2, 0, true);
        may(3, 2, 1, true);
        may(3, 2, 2, false);
        may(3, 2, -1, false);
        may(3, 12, 11, true);
        may(3, 12, 12, false);
        may(3, 13, 0, false);

        s.about(HERE, "the number left over by A is B.");
        says(2, "3 12 11", 11, 1);
        says(2, "3 12 11", 12, 0);
        says(2, "3 12 0", 12, 1);
        says(2, "3 2 0", 0, 1);
        says(2, "3 2 1", 0, 0);
        says(2, "3 2 1", 99, 1);
        says(4, "3 7 3", 9999, 1);
        says(4, "3 7 3", 9998, 0);
    }

    private void rising() {
        s.about(HERE, "4 RISING (A 0 .. 3, B 0)");
        may(4, -1, 0, false);
        may(4, 0, 0, true);
        may(4, 3, 0, true);
        may(4, 4, 0, false);
        may(4, 3, 1, false);
        may(4, 0, -1, false);

        s.about(HERE, "a FIGURE is less than the one ahead of it A times at most.");
        says(4, "4 0 0", 1122, 1);
        says(4, "4 0 0", 2222, 1);
        says(4, "4 0 0", 1121, 0);
        says(4, "4 1 0", 1121, 1);
        says(4, "4 1 0", 2121, 0);
        says(4, "4 2 0", 2121, 1);
        says(4, "4 2 0", 3210, 0);
        says(4, "4 3 0", 3210, 1);
        says(3, "4 1 0", 210, 0);
        says(3, "4 2 0", 210, 1);
        says(2, "4 0 0", 11, 1);
        says(2, "4 0 0", 10, 0);
        says(2, "4 1 0", 10, 1);
    }

    private void lucky() {
        s.about(HERE, "RULES, by KIND, say YES to a TICKET, the FIGURES of which are numbered from the front");
        says(4, "4 0 0", 12, 1);
        says(4, "4 0 0", 2100, 0);
        says(4, "0 0 0", 2100, 0);
        says(4, "0 3 0", 2100, 1);

        s.about(HERE, "A TICKET is LUCKY, if ALL RULES, or ANY, say YES (as told; without RULES none is).");
        String four = "r3 2 0;r3 3 0;r3 5 0;r3 7 0;";
        LuckyTickets all = Check.of("d3;m0;" + four);
        check.due("all, each says YES", all.lucky(210, 0), 1);
        check.due("all, one does not", all.lucky(30, 0), 0);
        LuckyTickets any = Check.of("d3;m1;" + four);
        check.due("any, one says YES", any.lucky(7, 0), 1);
        check.due("any, none does", any.lucky(11, 0), 0);
        for (int mode = 0; mode <= 1; mode++) {
            LuckyTickets none = Check.of("d2;m" + mode + ";n0 9;p1;");
            check.due("without RULES none is", none.told(7), 0);
            check.due("nor is 0", none.lucky(0, 0), 0);
            check.due("nor is LAST", none.lucky(99, 0), 0);
            check.due("nor is one sold", none.line(0, 9), 0);
        }
    }

    private void sold() {
        s.about(HERE, "SOLD from a ROLL to a RIDER: the next TICKET (behind LAST comes 0)");
        for (int d = 2; d <= 4; d++) {
            LuckyTickets x = Check.of("d" + d + ";n" + (Check.LASTS[d] - 1) + " 3;p0;");
            check.due("ahead of LAST", x.sell(0, 0), Check.LASTS[d] - 1);
            check.due("LAST", x.sell(0, 0), Check.LASTS[d]);
            check.due("the next one", x.rollOf(0, 0), 0);
            check.due("behind LAST", x.sell(0, 0), 0);
            check.due("the next one", x.rollOf(0, 0), 1);
        }

        s.about(HERE, "one less is left.");
        LuckyTickets x = Check.of("d2;n0 200;n0 1;p0;");
        x.sell(0, 0);
        check.due("of 200", x.rollOf(0, 1), 199);
        x.sell(1, 0);
        check.due("of 1", x.rollOf(1, 1), 0);
        check.due("none is left", x.sell(1, 0), Check.NOT);

        s.about(HERE, "By KIND: 0 (plain) it is kept.");
        LuckyTickets kinds = Check.of("d2;r3 2 0;n0 200;p0;p1;p2;p3;");
        for (int p = 0; p < 3; p++) {
            kinds.sell(0, p);
            kinds.sell(0, p);
        }
        kinds.sell(0, 3);
        check.riderIs(kinds, 0, 2, 1, 0, 0);

        s.about(HERE, "1 (eater): a LUCKY one is eaten, another one kept.");
        check.riderIs(kinds, 1, 1, 0, 1, 0);

        s.about(HERE, "2 (wary): a LUCKY one is torn up, another one kept.");
        check.riderIs(kinds, 2, 1, 0, 0, 1);

        s.about(HERE, "3 (passer): a LUCKY one is kept");
        check.riderIs(kinds, 3, 1, 1, 0, 0);
    }

    private void passed() {
        s.about(HERE, "another one goes to the next RIDER (behind the last comes 0;");
        LuckyTickets x = Check.of("d2;n0 200;p0;p0;p0;p3;p3;");
        x.sell(0, 3);
        check.riderIs(x, 3, 0, 0, 0, 0);
        check.riderIs(x, 4, 1, 0, 0, 0);
        x.sell(0, 4);
        check.riderIs(x, 4, 1, 0, 0, 0);
        check.riderIs(x, 0, 1, 0, 0, 0);

        s.about(HERE, "itself, if there is no other)");
        LuckyTickets alone = Check.of("d2;n0 200;p3;");
        alone.sell(0, 0);
        check.riderIs(alone, 0, 1, 0, 0, 0);

        s.about(HERE, "who keeps it whatever the KIND.");
        for (int kind = 0; kind <= 3; kind++) {
            LuckyTickets y = Check.of("d2;n0 200;p3;p" + kind + ";p0;");
            y.sell(0, 0);
            check.riderIs(y, 0, 0, 0, 0, 0);
            check.riderIs(y, 1, 1, 0, 0, 0);
            check.riderIs(y, 2, 0, 0, 0, 0);
        }
    }

    /** 9998 by 222 calls: an object has 512. */
    private static LuckyTickets soldTo9998(String rulesAndRider) {
        LuckyTickets x = Check.of("d2;n0 200;" + rulesAndRider);
        for (int i = 0; i < 55; i++) {
            x.line(0, 60);
            x.line(0, 60);
            x.line(0, 60);
            x.roll(0, 0, 200);
        }
        x.line(0, 60);
        x.line(0, 38);
        return x;
    }

    private void counted() {
        s.about(HERE, "Kept, LUCKY kept, eaten, torn up are counted for each (9999 at most).");
        String all = "r0 36 0;";
        String[] trams = {"p0;", all + "p0;", all + "p1;", all + "p2;", all + "p3;", "p3;"};
        int[][] parts = {{1, 0, 0, 0}, {1, 1, 0, 0}, {0, 0, 1, 0}, {0, 0, 0, 1}, {1, 1, 0, 0}, {1, 0, 0, 0}};
        for (int i = 0; i < trams.length; i++) {
            LuckyTickets x = soldTo9998(trams[i]);
            for (int many : new int[] {9998, 9999, 9999}) {
                check.riderIs(x, 0, parts[i][0] * many, parts[i][1] * many, parts[i][2] * many, parts[i][3] * many);
                x.sell(0, 0);
            }
        }
        givenAt9999();
    }

    /** 19998 by two: half as many for each. */
    private void givenAt9999() {
        LuckyTickets x = Check.of("d2;r0 36 0;n0 200;p0;p0;");
        for (int i = 0; i < 112; i++) {
            x.line(0, 60);
            x.line(0, 60);
            x.line(0, 60);
            x.roll(0, 0, 200);
        }
        check.due("given to one who has 9999", x.give(0, 1), 9999);
        check.riderIs(x, 0, 9998, 9998, 0, 0);
        check.riderIs(x, 1, 9999, 9999, 0, 0);
        check.due("given to one who has 9998", x.give(1, 0), 9999);
    }

    private void lines() {
        s.about(HERE, "A LINE of n: n TICKETS are SOLD from a ROLL, to RIDERS 0, 1, .. by turns.");
        LuckyTickets x = Check.of("d2;n98 200;n7 7;p0;p0;p0;p0;p0;");
        x.line(0, 5);
        for (int p = 0; p < 5; p++) {
            check.riderIs(x, p, 1, 0, 0, 0);
        }
        x.line(0, 6);
        check.riderIs(x, 0, 3, 0, 0, 0);
        check.riderIs(x, 4, 2, 0, 0, 0);
        x.line(0, 1);
        check.riderIs(x, 0, 4, 0, 0, 0);
        check.riderIs(x, 1, 2, 0, 0, 0);
        check.due("behind LAST comes 0", x.rollOf(0, 0), 10);
        check.due("the other ROLL", x.rollOf(1, 1), 7);
        LuckyTickets alone = Check.of("d2;n0 60;p0;");
        alone.line(0, 60);
        check.riderIs(alone, 0, 60, 0, 0, 0);
    }

    private void changed() {
        s.about(HERE, "GIVEN: a RIDER gives a LUCKY one it has kept to another one.");
        LuckyTickets x = Check.of("d2;r3 2 0;n0 9;p0;p1;p2;p3;p0;");
        x.sell(0, 0);
        x.sell(0, 0);
        for (int q = 1; q <= 4; q++) {
            check.due("to the next one", x.give(q - 1, q), 1);
            check.riderIs(x, q, 1, 1, 0, 0);
            check.due("it has none more", x.give(q - 1, q), Check.NOT);
        }
        check.due("behind the last", x.give(4, 0), 1);
        check.riderIs(x, 0, 2, 1, 0, 0);
        check.riderIs(x, 4, 0, 0, 0, 0);

        s.about(HERE, "A RULE becomes another; MODE (ALL, ANY) another; a ROLL is put in anew.");
        LuckyTickets y = Check.of("d2;" + "r3 2 0;".repeat(4) + "n0 9;".repeat(4));
        y.rule(3, 3, 2, 1);
        check.due("the last RULE", y.lucky(1, 1), 8);
        check.due("the others", y.lucky(0, 1), 7);
        y.mode(1);
        check.due("ANY", y.told(7), 100);
        y.mode(0);
        check.due("ALL", y.told(7), 0);
        y.roll(3, 99, 200);
        check.due("the last ROLL", y.rollOf(3, 0) * 1000 + y.rollOf(3, 1), 99200);
        check.due("the one ahead of it", y.rollOf(2, 0) * 1000 + y.rollOf(2, 1), 9);
    }
}
