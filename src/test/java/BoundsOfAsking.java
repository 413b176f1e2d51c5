/** The boundary cases of promises 18 to 30: what is tried, seen, written, drawn from and kept. */
final class BoundsOfAsking {
    private final Sentences s;
    private final Check check;

    BoundsOfAsking(Sentences sentences) {
        s = sentences;
        check = s.check;
    }

    void test() {
        next();
        upTo();
        kth();
        waits();
        dry();
        see();
        could();
        write();
        tear();
        judge();
        seed();
        keep();
        goBack();
    }

    private void next() {
        s.about("Promise 18", "NEXT (n 0 .. LAST); NONE.");
        for (int d = 2; d <= 4; d++) {
            LuckyTickets x = Check.of("d" + d + ";r0 36 0;");
            check.due("-1", x.next(-1), Check.OUTSIDE);
            check.due("0", x.next(0), 0);
            check.due("LAST", x.next(Check.LASTS[d]), Check.LASTS[d]);
            check.due("behind LAST", x.next(Check.LASTS[d] + 1), Check.OUTSIDE);
            check.due("none is LUCKY", Check.of("d" + d + ";").next(0), Check.NONE);
            check.due("none is LUCKY, LAST", Check.of("d" + d + ";").next(Check.LASTS[d]), Check.NONE);
        }

        s.about("Promise 18", "OUTSIDE (without a TRAM, too).");
        check.due("a new object", new LuckyTickets().next(0), Check.OUTSIDE);
        check.due("a TRAM that is gone", Check.gone().next(0), Check.OUTSIDE);
    }

    private void upTo() {
        s.about("Promise 19", "UP TO (a, b 0 .. LAST; 0, if b is less).");
        for (int d = 2; d <= 4; d++) {
            LuckyTickets x = Check.of("d" + d + ";r0 36 0;");
            int last = Check.LASTS[d];
            check.due("0 to LAST", x.upTo(0, last), last + 1);
            check.due("a -1", x.upTo(-1, last), Check.OUTSIDE);
            check.due("a behind LAST", x.upTo(last + 1, last), Check.OUTSIDE);
            check.due("b -1", x.upTo(0, -1), Check.OUTSIDE);
            check.due("b behind LAST", x.upTo(0, last + 1), Check.OUTSIDE);
            check.due("both behind LAST", x.upTo(last + 1, last + 1), Check.OUTSIDE);
            check.due("b is a", x.upTo(last, last), 1);
            check.due("b is less by one", x.upTo(last, last - 1), 0);
            check.due("b is less by all", x.upTo(last, 0), 0);
        }

        s.about("Promise 19", "OUTSIDE (without a TRAM, too).");
        check.due("a new object", new LuckyTickets().upTo(0, 0), Check.OUTSIDE);
        check.due("a new object, b is less", new LuckyTickets().upTo(1, 0), Check.OUTSIDE);
        check.due("a TRAM that is gone", Check.gone().upTo(0, 0), Check.OUTSIDE);
    }

    private void kth() {
        s.about("Promise 20", "K-TH (k 0 on); NONE.");
        LuckyTickets x = Check.of("d4;r0 36 0;");
        check.due("0", x.kth(0), 0);
        check.due("9999", x.kth(9999), 9999);
        check.due("10000", x.kth(10000), Check.NONE);
        check.due("the greatest", x.kth(Integer.MAX_VALUE), Check.NONE);
        check.due("0 of none", Check.of("d2;").kth(0), Check.NONE);
        check.due("0 without a TRAM", new LuckyTickets().kth(0), Check.NONE);
        check.due("0 of a TRAM that is gone", Check.gone().kth(0), Check.NONE);

        s.about("Promise 20", "OUTSIDE: below 0.");
        check.due("-1", x.kth(-1), Check.OUTSIDE);
        check.due("the least", x.kth(Integer.MIN_VALUE), Check.OUTSIDE);
        check.due("-1 of none", Check.of("d2;").kth(-1), Check.OUTSIDE);
        check.due("-1 without a TRAM", new LuckyTickets().kth(-1), Check.OUTSIDE);
    }

    private void waits() {
        s.about("Promise 21", "WAIT: what = 0 how much, 1 the lower one; NONE.");
        LuckyTickets two = Check.of("d2;m1;r2 3 2;r2 8 2;");
        check.due("how much", two.waits(0), 55);
        check.due("the lower one", two.waits(1), 33);
        for (int what = 0; what <= 1; what++) {
            check.due("one is LUCKY", Check.of("d2;r2 3 2;").waits(what), Check.NONE);
            check.due("none is LUCKY", Check.of("d2;").waits(what), Check.NONE);
            check.due("without a TRAM", new LuckyTickets().waits(what), Check.NONE);
            check.due("a TRAM that is gone", Check.gone().waits(what), Check.NONE);
        }

        s.about("Promise 21", "OUTSIDE.");
        check.due("what -1", two.waits(-1), Check.OUTSIDE);
        check.due("what 2", two.waits(2), Check.OUTSIDE);
        check.due("what -1 without a TRAM", new LuckyTickets().waits(-1), Check.OUTSIDE);
        check.due("what 2 without a TRAM", new LuckyTickets().waits(2), Check.OUTSIDE);
        check.due("what 2, not two are LUCKY", Check.of("d2;").waits(2), Check.OUTSIDE);
    }

    private void dry() {
        s.about("Promise 22", "DRY.");
        for (LuckyTickets x : new LuckyTickets[] {new LuckyTickets(), Check.of("d2;")}) {
            check.due("n 0, q 0", x.dry(0, 0), 1000000000);
            check.due("n 0, q 100", x.dry(0, 100), 1000000000);
            check.due("n 60, q 0", x.dry(60, 0), 0);
            check.due("n 60, q 100", x.dry(60, 100), 1000000000);
            check.due("n 1, q 1", x.dry(1, 1), 10000000);
            check.due("n 1, q 99", x.dry(1, 99), 990000000);
        }

        s.about("Promise 22", "OUTSIDE.");
        for (LuckyTickets x : new LuckyTickets[] {new LuckyTickets(), Check.of("d2;")}) {
            check.due("n -1", x.dry(-1, 0), Check.OUTSIDE);
            check.due("n 61", x.dry(61, 0), Check.OUTSIDE);
            check.due("q -1", x.dry(0, -1), Check.OUTSIDE);
            check.due("q 101", x.dry(0, 101), Check.OUTSIDE);
        }
    }

    private void see() {
        s.about("Promise 23", "SEEN (n 0 .. LAST): how much.");
        for (int d = 2; d <= 4; d++) {
            LuckyTickets x = Check.of("d" + d + ";");
            check.due("-1", x.see(-1, true), Check.OUTSIDE);
            check.due("0", x.see(0, true), 1);
            check.due("LAST", x.see(Check.LASTS[d], true), 2);
            check.due("behind LAST", x.see(Check.LASTS[d] + 1, true), Check.OUTSIDE);
            check.due("two are SEEN", x.told(10), 2);
        }

        s.about("Promise 23", "OUTSIDE (without a TRAM, too), FULL (8).");
        check.due("a new object", new LuckyTickets().see(0, true), Check.OUTSIDE);
        check.due("a TRAM that is gone", Check.gone().see(0, false), Check.OUTSIDE);
        LuckyTickets x = Check.of("d2;");
        for (int i = 1; i <= 8; i++) {
            check.due("see", x.see(0, true), i);
        }
        check.due("a ninth", x.see(0, true), Check.FULL);
        check.due("a ninth that is otherwise", x.see(0, false), Check.FULL);
        check.due("a ninth, -1", x.see(-1, true), Check.OUTSIDE);
        check.due("a ninth, 100", x.see(100, true), Check.OUTSIDE);
        check.holds("what is otherwise was not SEEN", x.told(11) > 0);
        x.tear();
        check.due("there is room again", x.see(0, true), 1);
    }

    private void could() {
        s.about("Promise 24", "The i-th that COULD BE: what = 0 KIND, 1 A, 2 B; NONE.");
        LuckyTickets x = Check.of("d2;");
        int[][] want = {{0, 0, 0}, {4, 3, 0}, {3, 12, 11}};
        int[] at = {0, 170, 166};
        for (int what = 0; what <= 2; what++) {
            for (int i = 0; i < at.length; i++) {
                check.due("could(" + at[i] + ", " + what + ")", x.could(at[i], what), want[i][what]);
            }
            check.due("could(171, " + what + ")", x.could(171, what), Check.NONE);
            check.due("could(-1, " + what + ")", x.could(-1, what), Check.NONE);
            check.due("the greatest", x.could(Integer.MAX_VALUE, what), Check.NONE);
            check.due("the least", x.could(Integer.MIN_VALUE, what), Check.NONE);
            check.due("without a TRAM", new LuckyTickets().could(0, what), Check.NONE);
            check.due("a TRAM that is gone", Check.gone().could(0, what), Check.NONE);
        }

        s.about("Promise 24", "OUTSIDE (what).");
        check.due("what -1", x.could(0, -1), Check.OUTSIDE);
        check.due("what 3", x.could(0, 3), Check.OUTSIDE);
        check.due("what -1, there is none", x.could(171, -1), Check.OUTSIDE);
        check.due("what 3, there is none", x.could(-1, 3), Check.OUTSIDE);
        check.due("what 3 without a TRAM", new LuckyTickets().could(0, 3), Check.OUTSIDE);
    }

    private void write() {
        s.about("Promise 25", "An entry behind THE BOOK (n 0 .. LAST): how many.");
        for (int d = 2; d <= 4; d++) {
            LuckyTickets x = Check.of("d" + d + ";");
            check.due("-1", x.write(-1, true), Check.OUTSIDE);
            check.due("0", x.write(0, false), 1);
            check.due("LAST", x.write(Check.LASTS[d], true), 2);
            check.due("behind LAST", x.write(Check.LASTS[d] + 1, true), Check.OUTSIDE);
            check.due("two entries", x.told(13), 2);
            check.due("LAST is the one behind", x.judge(), 1);
        }

        s.about("Promise 25", "OUTSIDE (without a TRAM, too), FULL (15).");
        check.due("a new object", new LuckyTickets().write(0, true), Check.OUTSIDE);
        check.due("a TRAM that is gone", Check.gone().write(0, false), Check.OUTSIDE);
        LuckyTickets x = Check.of("d2;");
        for (int i = 1; i <= 15; i++) {
            check.due("write", x.write(0, false), i);
        }
        check.due("a sixteenth", x.write(0, true), Check.FULL);
        check.due("a sixteenth, -1", x.write(-1, true), Check.OUTSIDE);
        check.due("a sixteenth, 100", x.write(100, true), Check.OUTSIDE);
        check.due("it was not written", x.judge(), Check.NONE);
        x.tear();
        check.due("there is room again", x.write(0, false), 1);
    }

    private void tear() {
        s.about("Promise 26", "Nothing SEEN, THE BOOK is empty: how much both had.");
        LuckyTickets x = Check.of("d2;");
        check.due("nothing", x.tear(), 0);
        x.see(0, true);
        check.due("SEEN alone", x.tear(), 1);
        x.write(0, true);
        check.due("THE BOOK alone", x.tear(), 1);
        for (int i = 0; i < 15; i++) {
            x.see(i, true);
            x.write(i, true);
        }
        check.holds("fewer COULD BE by what is SEEN", x.told(11) < 171);
        check.holds("another number is asked about", x.told(12) != 0);
        check.due("both are full", x.tear(), 23);
        check.due("nothing is SEEN", x.told(10), 0);
        check.due("all COULD BE", x.told(11), 171);
        check.due("ASK is as at first", x.told(12), 0);
        check.due("no entries", x.told(13), 0);
        check.due("again", x.tear(), 0);
        check.due("without a TRAM", new LuckyTickets().tear(), 0);
        check.due("a TRAM that is gone", Check.gone().tear(), 0);
    }

    private void judge() {
        s.about("Promise 27", "FALSE; NONE.");
        LuckyTickets x = Check.of("d2;r0 36 0;");
        check.due("an empty one", x.judge(), Check.NONE);
        check.due("without a TRAM", new LuckyTickets().judge(), Check.NONE);
        x.write(0, false);
        check.due("the only entry", x.judge(), 0);
        x.tear();
        for (int i = 0; i < 15; i++) {
            check.due("all is so", x.judge(), Check.NONE);
            x.write(i, i < 14);
        }
        check.due("the last of 15", x.judge(), 14);
    }

    private void seed() {
        s.about("Promise 28", "THE SEED becomes v (0 .. 2147483647): what it was.");
        for (LuckyTickets x : new LuckyTickets[] {new LuckyTickets(), Check.of("d2;")}) {
            check.due("0 at first", x.seed(2147483647), 0);
            check.due("the greatest", x.seed(0), 2147483647);
            check.due("the least", x.seed(2147483646), 0);
            check.due("one less", x.seed(1), 2147483646);
        }

        s.about("Promise 28", "OUTSIDE.");
        LuckyTickets x = new LuckyTickets();
        x.seed(5);
        check.due("-1", x.seed(-1), Check.OUTSIDE);
        check.due("the least", x.seed(Integer.MIN_VALUE), Check.OUTSIDE);
        check.due("it is as it was", x.seed(0), 5);
    }

    private void keep() {
        s.about("Promise 29", "IMAGE i becomes what is so (nothing can be undone then): 1.");
        for (int i = 0; i <= 1; i++) {
            LuckyTickets x = Check.of("d2;n0 9;p0;");
            x.sell(0, 0);
            check.due("keep(" + i + ")", x.keep(i), 1);
            check.due("nothing can be undone", x.told(14), 0);
            check.due("nothing can be undone", x.undo(), Check.NOT);
            x.sell(0, 0);
            check.due("again", x.keep(i), 1);
            x.sell(0, 0);
            check.due("goBack(" + i + ")", x.goBack(i), 1);
            check.due("to the latest that was kept", x.rollOf(0, 0), 2);
            check.due("the other one was not kept", x.goBack(1 - i), Check.NOT);
        }
        check.due("without a TRAM", new LuckyTickets().keep(0), 1);

        s.about("Promise 29", "UNKNOWN.");
        LuckyTickets x = Check.of("d2;n0 9;p0;");
        x.sell(0, 0);
        check.due("keep(-1)", x.keep(-1), Check.UNKNOWN);
        check.due("keep(2)", x.keep(2), Check.UNKNOWN);
        check.due("it can be undone", x.told(14), 1);
        check.due("without a TRAM", new LuckyTickets().keep(2), Check.UNKNOWN);
    }

    private void goBack() {
        s.about("Promise 30", "What is so becomes IMAGE i (nothing can be undone then): 1.");
        for (int i = 0; i <= 1; i++) {
            LuckyTickets x = Check.of("d2;r3 2 0;n0 9;p0;");
            x.keep(i);
            x.sell(0, 0);
            x.drift(1);
            for (int round = 0; round < 2; round++) {
                x.mode(1);
                check.due("goBack(" + i + ")", x.goBack(i), 1);
                check.due("nothing can be undone", x.told(14), 0);
                check.due("nothing can be undone", x.undo(), Check.NOT);
                check.due("MODE", x.told(1), 0);
                check.due("DAYS", x.told(6), 0);
                check.due("left", x.rollOf(0, 1), 9);
            }
        }

        s.about("Promise 30", "UNKNOWN, NOT: it was not kept.");
        LuckyTickets x = Check.of("d2;n0 9;p0;");
        x.sell(0, 0);
        check.due("goBack(-1)", x.goBack(-1), Check.UNKNOWN);
        check.due("goBack(2)", x.goBack(2), Check.UNKNOWN);
        check.due("goBack(0), not kept", x.goBack(0), Check.NOT);
        check.due("goBack(1), not kept", x.goBack(1), Check.NOT);
        check.due("it can be undone", x.told(14), 1);
        x.keep(0);
        check.due("goBack(1), 0 was kept", x.goBack(1), Check.NOT);
        Check.feed(x, "d2;");
        x.tram();
        check.due("goBack(0), a new TRAM came", x.goBack(0), Check.NOT);
        check.due("without a TRAM", new LuckyTickets().goBack(0), Check.NOT);
    }
}
