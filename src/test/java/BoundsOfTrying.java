/** The boundary cases of section 3: what is tried, seen, written, drawn, undone and kept. */
final class BoundsOfTrying {
    private static final String HERE = "Section 3";

    private final Sentences s;
    private final Check check;

    BoundsOfTrying(Sentences sentences) {
        s = sentences;
        check = s.check;
    }

    void test() {
        nothingChanges();
        numbers();
        waits();
        soon();
        bestAndPart();
        withoutAndLuckiest();
        seen();
        ask();
        dry();
        book();
        undone();
        images();
    }

    private void nothingChanges() {
        s.about(HERE, "TRIED from now; nothing changes by it.");
        LuckyTickets x = Check.of("d2;r3 10 4;n0 9;p0;");
        x.sell(0, 0);
        for (int round = 0; round < 2; round++) {
            check.due("next", x.next(5), 14);
            check.due("upTo", x.upTo(0, 99), 10);
            check.due("kth", x.kth(9), 94);
            check.due("waits", x.waits(0), 10);
            check.due("dry", x.dry(1, 50), 500000000);
            check.due("SOON", x.rollOf(0, 2), 3);
            check.due("BEST", x.told(8), 0);
            check.due("WITHOUT", x.ruleOf(0, 3), 99990);
            check.due("could", x.could(170, 0), 4);
            check.due("judge", x.judge(), Check.NONE);
            check.due("next TICKET", x.rollOf(0, 0), 1);
            check.due("left", x.rollOf(0, 1), 8);
            check.due("can be undone", x.told(14), 1);
        }
    }

    private void numbers() {
        s.about(HERE, "NEXT from n: the least LUCKY number that is n or more (to LAST); NONE.");
        LuckyTickets x = Check.of("d2;r3 10 4;");
        check.due("from 0", x.next(0), 4);
        check.due("n itself", x.next(4), 4);
        check.due("behind it", x.next(5), 14);
        check.due("the last one", x.next(94), 94);
        check.due("none is more", x.next(95), Check.NONE);
        check.due("none is more", x.next(99), Check.NONE);
        for (int d = 2; d <= 4; d++) {
            int last = Check.LASTS[d];
            check.due("LAST", Check.of("d" + d + ";r2 9 " + d + ";").next(0), last);
            check.due("LAST from LAST", Check.of("d" + d + ";r2 9 " + d + ";").next(last), last);
        }

        s.about(HERE, "UP TO: how many LUCKY ones there are from a to b.");
        check.due("both ends are LUCKY", x.upTo(4, 14), 2);
        check.due("a is left out", x.upTo(5, 14), 1);
        check.due("b is left out", x.upTo(4, 13), 1);
        check.due("both are left out", x.upTo(5, 13), 0);
        check.due("one number", x.upTo(4, 4), 1);
        check.due("all", Check.of("d4;r0 36 0;").upTo(0, 9999), 10000);

        s.about(HERE, "K-TH: the LUCKY number ahead of which there are k; NONE.");
        check.due("none ahead", x.kth(0), 4);
        check.due("nine ahead", x.kth(9), 94);
        check.due("there are not ten ahead of one", x.kth(10), Check.NONE);
        check.due("0", Check.of("d2;r2 0 2;").kth(0), 0);
        check.due("LAST", Check.of("d4;r0 36 0;").kth(9999), 9999);
        check.due("behind LAST", Check.of("d4;r0 36 0;").kth(10000), Check.NONE);
        check.due("there are none", Check.of("d2;").kth(0), Check.NONE);
    }

    private void waits() {
        s.about(HERE, "WAIT: the greatest difference of two LUCKY numbers next to one another: how much; the lower one");
        // from 0 to the first LUCKY one is no wait, nor from the last one to LAST
        LuckyTickets x = Check.of("d2;m1;r2 5 2;r2 6 2;");
        check.due("55 to 66", x.waits(0), 11);
        check.due("55 to 66, the lower one", x.waits(1), 55);
        LuckyTickets ends = Check.of("d4;m1;r2 0 4;r2 9 4;");
        check.due("0 to LAST", ends.waits(0), 9999);
        check.due("0 to LAST, the lower one", ends.waits(1), 0);
        LuckyTickets all = Check.of("d2;r0 36 0;");
        check.due("all", all.waits(0), 1);
        check.due("all, the lower one", all.waits(1), 0);

        s.about(HERE, "(of like ones the least)");
        check.due("4, 14, .. 94", Check.of("d2;r3 10 4;").waits(1), 4);
        // 0 to 11 is as long as 88 to 99
        check.due("0, 11, .. 99", Check.of("d2;r1 0 0;").waits(1), 0);
        check.due("0, 55, 99: the first is longer", Check.of("d2;m1;r2 0 2;r2 9 2;r2 5 2;").waits(1), 0);
        check.due("0, 44, 99: the other is longer", Check.of("d2;m1;r2 0 2;r2 9 2;r2 4 2;").waits(1), 44);
        check.due("44, 55, 77: the other is longer", Check.of("d2;m1;r2 4 2;r2 5 2;r2 7 2;").waits(1), 55);

        s.about(HERE, "NONE: there are not two.");
        for (int what = 0; what <= 1; what++) {
            check.due("one", Check.of("d2;r2 7 2;").waits(what), Check.NONE);
            check.due("one, 0", Check.of("d2;r2 0 2;").waits(what), Check.NONE);
            check.due("none", Check.of("d2;").waits(what), Check.NONE);
            check.due("no TRAM", new LuckyTickets().waits(what), Check.NONE);
        }
        check.due("two", Check.of("d2;m1;r2 0 2;r2 1 2;").waits(0), 11);
    }

    private int soonOf(String roll) {
        return Check.of("d2;r2 7 2;n" + roll + ";").rollOf(0, 2);
    }

    private void soon() {
        s.about(HERE, "SOON from a ROLL: how many TICKETS are SOLD ahead of the first LUCKY one (0: it is the next)");
        check.due("it is the next", soonOf("77 1"), 0);
        check.due("the one behind it", soonOf("76 2"), 1);
        check.due("behind LAST comes 0", soonOf("78 200"), 99);
        check.due("the last one that is left", soonOf("78 100"), 99);

        s.about(HERE, "NONE: none is left.");
        check.due("one too few", soonOf("78 99"), Check.NONE);
        check.due("one too few", soonOf("76 1"), Check.NONE);
        check.due("nothing is left", soonOf("77 0"), Check.NONE);
        check.due("none is LUCKY", Check.of("d2;n0 200;").rollOf(0, 2), Check.NONE);

        s.about(HERE, "WHO: to which RIDER that one would be SOLD in a LINE; NONE.");
        String[] riders = {"", "p0;", "p0;p0;", "p0;p0;p0;", "p0;p0;p0;p0;", "p3;p2;p1;p0;p0;"};
        int[] of99 = {Check.NONE, 0, 1, 0, 3, 4};
        int[] of5 = {Check.NONE, 0, 1, 2, 1, 0};
        for (int i = 0; i < riders.length; i++) {
            LuckyTickets x = Check.of("d2;r2 7 2;n78 200;n72 9;n78 99;n77 1;" + riders[i]);
            check.due("behind 99 of " + i, x.rollOf(0, 3), of99[i]);
            check.due("behind 5 of " + i, x.rollOf(1, 3), of5[i]);
            check.due("none is left, " + i, x.rollOf(2, 3), Check.NONE);
            check.due("it is the next, " + i, x.rollOf(3, 3), i == 0 ? Check.NONE : 0);
        }
    }

    private int best(String rolls) {
        return Check.of("d2;r2 7 2;" + rolls).told(8);
    }

    private void part(String roll, int above, int below) {
        LuckyTickets x = Check.of("d2;r3 2 0;n" + roll + ";");
        check.due("above of " + roll, x.rollOf(0, 4), above);
        check.due("below of " + roll, x.rollOf(0, 5), below);
    }

    private void bestAndPart() {
        s.about(HERE, "BEST: the ROLL from which it is SOONEST; of like ones the least; NONE.");
        check.due("no ROLLS", best(""), Check.NONE);
        check.due("none has one", best("n78 99;n77 0;"), Check.NONE);
        check.due("one has", best("n78 99;n77 0;n78 100;"), 2);
        check.due("the last one", best("n70 9;n71 9;n72 9;n73 9;"), 3);
        check.due("the first one", best("n76 9;n75 9;n74 9;n73 9;"), 0);
        check.due("like ones", best("n70 9;n75 9;n75 9;n75 9;"), 1);
        check.due("like ones, the next", best("n77 1;n77 9;"), 0);
        check.due("no TRAM", new LuckyTickets().told(8), Check.NONE);

        s.about(HERE, "PART of a ROLL: LUCKY ones left by all left: above, below (lowest terms; 0 by 1, if none).");
        part("0 0", 0, 1);
        part("1 1", 0, 1);
        part("0 1", 1, 1);
        part("0 2", 1, 2);
        part("0 9", 5, 9);
        part("1 9", 4, 9);
        part("0 200", 1, 2);
        part("0 199", 100, 199);
        part("98 3", 2, 3);
        LuckyTickets all = Check.of("d2;r0 36 0;n99 200;n0 200;");
        check.due("all, above", all.rollOf(0, 4), 1);
        check.due("all, below", all.rollOf(0, 5), 1);
        LuckyTickets none = Check.of("d2;n99 200;");
        check.due("without RULES, above", none.rollOf(0, 4), 0);
        check.due("without RULES, below", none.rollOf(0, 5), 1);
    }

    private void withoutAndLuckiest() {
        s.about(HERE, "WITHOUT a RULE: how many numbers would be LUCKY, were it left out, less how many are (100000 more).");
        check.due("the only one, all are", Check.of("d4;r0 36 0;").ruleOf(0, 3), 90000);
        check.due("the only one, none is", Check.of("d2;r2 0 4;").ruleOf(0, 3), 100000);
        check.due("all would be", Check.of("d4;r0 36 0;r2 9 4;").ruleOf(1, 3), 109999);
        check.due("none would be more", Check.of("d4;r0 36 0;r2 9 4;").ruleOf(0, 3), 100000);
        LuckyTickets any = Check.of("d4;m1;r0 36 0;r2 9 4;");
        check.due("any, but one", any.ruleOf(0, 3), 90001);
        check.due("any, the same", any.ruleOf(1, 3), 100000);
        LuckyTickets four = Check.of("d2;r0 36 0;r0 36 0;r0 36 0;r3 2 0;");
        check.due("the last of four", four.ruleOf(3, 3), 100050);

        s.about(HERE, "LUCKIEST: the RIDER with most LUCKY ones kept and eaten; of like ones the least; NONE.");
        check.due("no RIDERS", Check.of("d2;").told(9), Check.NONE);
        check.due("no TRAM", new LuckyTickets().told(9), Check.NONE);
        LuckyTickets x = Check.of("d2;r0 36 0;n0 200;p2;p2;p1;p0;p3;");
        check.due("none has any", x.told(9), 0);
        x.sell(0, 0);
        x.sell(0, 1);
        x.sell(0, 1);
        check.due("torn up is not kept", x.told(9), 0);
        x.sell(0, 4);
        check.due("the last one", x.told(9), 4);
        x.sell(0, 3);
        check.due("like ones, kept", x.told(9), 3);
        x.sell(0, 2);
        check.due("like ones, eaten", x.told(9), 2);
        x.sell(0, 4);
        check.due("one more", x.told(9), 4);
        x.give(4, 2);
        check.due("one eaten, one kept", x.told(9), 2);
    }

    private void seen() {
        s.about(HERE, "SEEN (8 at most): by one unknown RULE alone (any that may be told) a TICKET was LUCKY, or not.");
        LuckyTickets x = Check.of("d2;r0 0 0;r2 7 2;");
        check.due("of all that may be told", x.told(11), 37 + 3 + 50 + 77 + 4);
        for (int i = 1; i <= 8; i++) {
            check.due("see", x.see(i, i == 8), i);
        }
        check.due("a ninth", x.see(9, true), Check.FULL);
        check.due("8 are SEEN", x.told(10), 8);

        s.about(HERE, "COULD BE: such RULES by which all that is SEEN is so (by KIND, then A, then B rising): how many");
        LuckyTickets y = Check.of("d2;");
        check.due("the first", ruleAt(y, 0), 0);
        check.due("HALVES, the last", ruleAt(y, 36), 3600);
        check.due("MIRROR, the first", ruleAt(y, 37), 10000);
        check.due("MIRROR, the last", ruleAt(y, 39), 10200);
        check.due("COUNT, the first", ruleAt(y, 40), 20000);
        check.due("COUNT, B rises first", ruleAt(y, 44), 20004);
        check.due("COUNT, then A", ruleAt(y, 45), 20100);
        check.due("COUNT, the last", ruleAt(y, 89), 20904);
        check.due("REST, the first", ruleAt(y, 90), 30200);
        check.due("REST, then A", ruleAt(y, 92), 30300);
        check.due("REST, the last", ruleAt(y, 166), 31211);
        check.due("RISING, the first", ruleAt(y, 167), 40000);
        check.due("RISING, the last", ruleAt(y, 170), 40300);
        y.see(0, true);
        y.see(99, false);
        y.see(54, true);
        check.due("three are left", y.told(11), 3);
        check.due("first", ruleAt(y, 0), 20900);
        check.due("second", ruleAt(y, 1), 30200);
        check.due("third", ruleAt(y, 2), 30600);

        s.about(HERE, "the i-th: KIND, A, B; NONE.");
        for (int what = 0; what <= 2; what++) {
            check.due("ahead of the first", y.could(-1, what), Check.NONE);
            check.due("behind the last", y.could(3, what), Check.NONE);
        }
        y.see(0, false);
        check.due("none is left", y.told(11), 0);
        check.due("none is left", y.could(0, 0), Check.NONE);
        check.due("none without a TRAM", new LuckyTickets().could(0, 0), Check.NONE);
    }

    private static int ruleAt(LuckyTickets x, int i) {
        return x.could(i, 0) * 10000 + x.could(i, 1) * 100 + x.could(i, 2);
    }

    /** Numbers that were LUCKY, and the others, told below 0 (so 0 can only be LUCKY). */
    private static LuckyTickets seenBy(int figures, int... numbers) {
        LuckyTickets x = Check.of("d" + figures + ";");
        for (int n : numbers) {
            x.see(Math.abs(n), n >= 0);
        }
        return x;
    }

    private void ask() {
        s.about(HERE, "ASK: the number (0 .. 99, to LAST) by which, LUCKY or not, these are told apart best");
        check.due("0 is asked about", Check.of("d2;").told(12), 0);
        // COUNT 9 once, REST 5 4, 10 9, 11 6: 99 parts them two by two
        LuckyTickets x = seenBy(2, -75, -43, -7, -31, 39, -53);
        check.due("four are left", x.told(11), 4);
        check.due("99 is asked about", x.told(12), 99);
        // RISING 1 and 2: 210 is the first that would part them
        LuckyTickets y = seenBy(4, -9876, 4799, 3804, 536, 7725);
        check.due("two are left", y.told(11), 2);
        check.due("the first is RISING 1", ruleAt(y, 0), 40100);
        check.due("the other is RISING 2", ruleAt(y, 1), 40200);
        check.due("above 99 none is asked about", y.told(12), Check.NONE);
        check.due("210 would part them", y.see(210, true) + y.told(11), 7);

        s.about(HERE, "the greater part is least; of like ones the least");
        // HALVES 0, 1, MIRROR 0, COUNT 0 0: 0 parts them by three and one, as others; by two and two none up to 99
        LuckyTickets z = seenBy(3, -406, 474, 767);
        check.due("four are left", z.told(11), 4);
        check.due("the least of like ones", z.told(12), 0);
        // COUNT 9 0, REST 2 0, REST 6 0: 0 is LUCKY by each, 1 by one, 2 by two
        LuckyTickets three = seenBy(2, 0, -99, 54);
        check.due("three are left", three.told(11), 3);
        check.due("1 and 2 are alike", three.told(12), 1);

        s.about(HERE, "NONE: none parts them.");
        // HALVES 0, MIRROR 0, REST 11 0 are the same for two figures
        LuckyTickets same = seenBy(2, 66, -81, -45, 11);
        check.due("three are left", same.told(11), 3);
        check.due("none parts them", same.told(12), Check.NONE);
        three.see(1, true);
        check.due("one is left", three.told(11), 1);
        check.due("one is not parted", three.told(12), Check.NONE);
        three.see(1, false);
        check.due("none is left", three.told(11), 0);
        check.due("none is not parted", three.told(12), Check.NONE);
        check.due("no TRAM", new LuckyTickets().told(12), Check.NONE);
    }

    private void dry() {
        s.about(HERE, "DRY: odds of n dry days (0 .. 60), each by q of a hundred (0 .. 100)");
        LuckyTickets x = new LuckyTickets();
        check.due("n -1", x.dry(-1, 50), Check.OUTSIDE);
        check.due("n 0", x.dry(0, 50), 1000000000);
        check.due("n 60", x.dry(60, 100), 1000000000);
        check.due("n 61", x.dry(61, 100), Check.OUTSIDE);
        check.due("q -1", x.dry(1, -1), Check.OUTSIDE);
        check.due("q 0", x.dry(1, 0), 0);
        check.due("q 100", x.dry(1, 100), 1000000000);
        check.due("q 101", x.dry(1, 101), Check.OUTSIDE);

        s.about(HERE, "a BILLION times q / 100 each (cut).");
        check.due("q 1, 4 days", x.dry(4, 1), 10);
        check.due("q 1, 5 days", x.dry(5, 1), 0);
        check.due("n 60, q 0", x.dry(60, 0), 0);
        check.due("33, 4 days", x.dry(4, 33), 11859210);
        check.due("33, 5 days", x.dry(5, 33), 3913539);
        check.due("33, 6 days, cut each day", x.dry(6, 33), 1291467);
        check.due("99, 60 days, cut each day", x.dry(60, 99), cutEachDay(60, 99));
    }

    private static int cutEachDay(int n, int q) {
        java.math.BigInteger odds = java.math.BigInteger.valueOf(1000000000);
        for (int day = 0; day < n; day++) {
            odds = odds.multiply(java.math.BigInteger.valueOf(q)).divide(java.math.BigInteger.valueOf(100));
        }
        return odds.intValueExact();
    }

    private void book() {
        s.about(HERE, "THE BOOK (15 at most) tells of TICKETS that they are LUCKY, or not");
        LuckyTickets x = Check.of("d2;r0 36 0;");
        for (int i = 1; i <= 15; i++) {
            check.due("write", x.write(i, i < 15), i);
        }
        check.due("a sixteenth", x.write(16, true), Check.FULL);
        check.due("15 entries", x.told(13), 15);

        s.about(HERE, "FALSE: the first that is otherwise now; NONE.");
        check.due("the last of 15", x.judge(), 14);
        x.rule(0, 2, 0, 4);
        check.due("the first of 14", x.judge(), 0);
        x.tear();
        check.due("an empty one", x.judge(), Check.NONE);
        // COUNT 0 4 says YES to none of two FIGURES, COUNT 0 2 to 0 alone
        x.write(0, false);
        x.write(99, false);
        check.due("none is otherwise", x.judge(), Check.NONE);
        x.rule(0, 2, 0, 2);
        check.due("0 is", x.judge(), 0);
        x.rule(0, 2, 9, 2);
        check.due("99 is", x.judge(), 1);
        x.rule(0, 2, 0, 4);
        check.due("none is otherwise", x.judge(), Check.NONE);
        x.write(99, true);
        x.write(99, true);
        check.due("the first of two", x.judge(), 2);
    }

    private void undone() {
        s.about(HERE, "UNDONE: the latest of sell(), line(), give(), rule(), mode(), roll(), drift() that was not refused");
        LuckyTickets y = Check.of("d2;r0 36 0;n0 200;p0;p0;");
        int[] answers = {y.sell(0, 0), y.line(0, 1), y.give(0, 1), y.rule(0, 0, 36, 0), y.mode(1), y.roll(0, 0, 200),
            y.drift(1)};
        for (int i = 0; i < answers.length; i++) {
            check.holds("deed " + i + " was not refused", answers[i] >= 0);
        }
        int[] refused = {y.sell(1, 0), y.line(0, 0), y.give(0, 0), y.rule(0, 0, 37, 0), y.mode(1), y.roll(0, 0, 201),
            y.drift(0)};
        for (int i = 0; i < refused.length; i++) {
            check.holds("deed " + i + " was refused", refused[i] <= Check.UNKNOWN);
        }
        check.due("seven can be undone", y.told(14), 7);
        for (int i = 6; i >= 0; i--) {
            check.due("undo", y.undo(), i);
        }
        check.due("no more", y.undo(), Check.NOT);
        check.due("as at first, left", y.rollOf(0, 1), 200);
        check.riderIs(y, 0, 0, 0, 0, 0);

        s.about(HERE, "(16 at most are kept, the oldest are lost)");
        for (int deeds = 15; deeds <= 33; deeds++) {
            LuckyTickets x = Check.of("d2;n0 100;p0;");
            for (int i = 0; i < deeds; i++) {
                x.sell(0, 0);
            }
            int can = Math.min(16, deeds);
            check.due("can be undone of " + deeds, x.told(14), can);
            for (int i = 1; i <= can; i++) {
                check.due("more can be undone of " + deeds, x.undo(), can - i);
                check.due("next TICKET", x.rollOf(0, 0), deeds - i);
            }
            check.due("no more of " + deeds, x.undo(), Check.NOT);
            check.due("the oldest are lost", x.rollOf(0, 0), deeds - can);
        }

        s.about(HERE, "all of section 2 is as ahead of it; THE SEED stays.");
        LuckyTickets z = Check.of("d2;r3 2 0;n0 100;p0;p1;");
        z.seed(1);
        z.drift(60);
        int seed = z.seed(0);
        z.seed(seed);
        check.holds("it was drawn from", seed != 1);
        z.undo();
        check.due("next TICKET", z.rollOf(0, 0), 0);
        check.due("left", z.rollOf(0, 1), 100);
        check.due("days", z.told(6), 0);
        check.riderIs(z, 0, 0, 0, 0, 0);
        check.riderIs(z, 1, 0, 0, 0, 0);
        check.due("THE SEED stays", z.seed(0), seed);
        z.rule(0, 3, 5, 0);
        z.mode(1);
        z.undo();
        check.due("MODE", z.told(1), 0);
        z.undo();
        check.due("the RULE's A", z.ruleOf(0, 1), 2);
        check.due("how many are LUCKY", z.told(7), 50);
    }

    private void images() {
        s.about(HERE, "IMAGES 0, 1 keep all of section 2, THE SEED.");
        LuckyTickets x = Check.of("d2;m1;r3 2 0;n0 100;p0;");
        check.due("-1", x.keep(-1), Check.UNKNOWN);
        check.due("2", x.keep(2), Check.UNKNOWN);
        x.seed(10);
        check.due("0", x.keep(0), 1);
        x.sell(0, 0);
        x.rule(0, 3, 5, 1);
        x.mode(0);
        x.seed(11);
        check.due("1", x.keep(1), 1);
        x.roll(0, 50, 50);
        x.seed(12);
        int[][] want = {{1, 50, 0, 100, 0, 10}, {0, 20, 1, 99, 1, 11}};
        for (int i = 1; i >= 0; i--) {
            x.goBack(i);
            check.due("MODE", x.told(1), want[i][0]);
            check.due("how many are LUCKY", x.told(7), want[i][1]);
            check.due("next TICKET", x.rollOf(0, 0), want[i][2]);
            check.due("left", x.rollOf(0, 1), want[i][3]);
            check.due("LUCKY kept", x.rider(0, 2), want[i][4]);
            check.due("THE SEED", x.seed(13), want[i][5]);
        }
    }
}
