/** The boundary cases of section 1 and of promises 1 to 4: THE TEXT, its faults and the tram told in it. */
final class BoundsOfText {
    private static final String HERE = "Section 1";

    private final Sentences s;
    private final Check check;

    BoundsOfText(Sentences sentences) {
        s = sentences;
        check = s.check;
    }

    void test() {
        clauses();
        counts();
        numbers();
        faults();
        eachFault();
        emptyText();
        newObject();
        feed();
        tram();
        tramRefused();
        fault();
    }

    private void clauses() {
        s.about(HERE, "THE TRAM is told in a text (240 letters at most)");
        check.good("d2;" + " ".repeat(234) + "p0;", 1);
        LuckyTickets x = new LuckyTickets();
        Check.feed(x, "d2;" + " ".repeat(235) + "p0;");
        check.due("the last of 241 letters is not there", x.tram(), -11);

        s.about(HERE, "TICKETS have D FIGURES, 2 .. 4");
        check.bad("d0;", 2, 1);
        check.bad("d1;", 2, 1);
        check.good("d2;", 0);
        check.good("d4;", 0);
        check.bad("d5;", 2, 1);
        LuckyTickets one = new LuckyTickets();
        for (int d : new int[] {4, 2, 3, 2, 4}) {
            Check.feed(one, "d" + d + ";r3 10 4;");
            one.tram();
            check.due("FIGURES", one.told(0), d);
            check.due("the same RULE for D " + d, one.told(7), (Check.LASTS[d] + 1) / 10);
        }

        s.about(HERE, "0 ahead as they need");
        for (int d = 2; d <= 4; d++) {
            check.due("0 has D of them", Check.of("d" + d + ";r2 0 " + d + ";").lucky(0, 0), 1);
            check.due("7 has one less", Check.of("d" + d + ";r2 0 " + (d - 1) + ";").lucky(7, 0), 1);
            check.due("LAST has none", Check.of("d" + d + ";r2 0 0;").lucky(Check.LASTS[d], 0), 1);
        }

        s.about(HERE, "numbers 0 to LAST, 10 to the D, less 1");
        for (int d = 2; d <= 4; d++) {
            LuckyTickets all = Check.of("d" + d + ";r0 36 0;");
            check.due("how many there are", all.told(7), Check.LASTS[d] + 1);
            check.due("-1", all.lucky(-1, 0), Check.OUTSIDE);
            check.due("0", all.lucky(0, 0), 1);
            check.due("LAST", all.lucky(Check.LASTS[d], 0), 1);
            check.due("behind LAST", all.lucky(Check.LASTS[d] + 1, 0), Check.OUTSIDE);
        }

        s.about(HERE, "first, once)");
        for (String word : new String[] {"m0;", "r0 0 0;", "n0 0;", "p0;"}) {
            check.bad(word + "d2;", 1, 0);
            check.good("d2;" + word, word.startsWith("p") ? 1 : 0);
        }
        check.bad("d2;d2;", 3, 3);
        check.bad("d2;p0;d3;", 3, 6);
    }

    private void counts() {
        s.about(HERE, "(0 ALL of the RULES, 1 ANY;");
        check.due("0", Check.of("d2;m0;").told(1), 0);
        check.due("1", Check.of("d2;m1;").told(1), 1);
        check.bad("d2;m2;", 2, 4);

        s.about(HERE, "once; 0 untold)");
        check.due("untold", Check.of("d2;").told(1), 0);
        check.bad("d2;m0;m0;", 3, 6);
        check.bad("d2;m1;p0;m0;", 3, 9);
        LuckyTickets again = Check.of("d2;m1;");
        Check.feed(again, "d2;m1;");
        check.due("once in each text", again.tram(), 0);
        Check.feed(again, "d2;");
        again.tram();
        check.due("untold behind a text that told it", again.told(1), 0);

        s.about(HERE, "4 RULES at most");
        check.due("four", Check.of("d2;" + "r0 0 0;".repeat(4)).told(2), 4);
        check.bad("d2;" + "r0 0 0;".repeat(5), 3, 31);

        s.about(HERE, "KIND K, 0 .. 4;");
        check.good("d2;r0 0 0;", 0);
        check.good("d2;r4 0 0;", 0);
        check.bad("d2;r5 0 0;", 2, 4);

        s.about(HERE, "A, B 0 .. 99, as told below");
        check.bad("d2;r2 99 0;", 4, 6);
        check.bad("d2;r2 100 0;", 2, 6);
        check.bad("d2;r2 0 99;", 4, 6);
        check.bad("d2;r2 0 100;", 2, 8);
        check.good("d2;r2 0 0;", 0);

        s.about(HERE, "4 ROLLS at most");
        check.due("four", Check.of("d2;" + "n0 0;".repeat(4)).told(3), 4);
        check.bad("d2;" + "n0 0;".repeat(5), 3, 23);

        s.about(HERE, "the next TICKET N, 0 .. LAST");
        for (int d = 2; d <= 4; d++) {
            check.due("0", Check.of("d" + d + ";n0 1;").rollOf(0, 0), 0);
            check.due("LAST", Check.of("d" + d + ";n" + Check.LASTS[d] + " 1;").rollOf(0, 0), Check.LASTS[d]);
            check.bad("d" + d + ";n" + (Check.LASTS[d] + 1) + " 1;", 2, 4);
        }

        s.about(HERE, "C, 0 .. 200, are left");
        check.due("0", Check.of("d2;n0 0;").rollOf(0, 1), 0);
        check.due("200", Check.of("d2;n0 200;").rollOf(0, 1), 200);
        check.bad("d2;n0 201;", 2, 6);

        s.about(HERE, "5 RIDERS at most");
        check.good("d2;" + "p0;".repeat(5), 5);
        check.bad("d2;" + "p0;".repeat(6), 3, 18);

        s.about(HERE, "KIND K, 0 .. 3)");
        check.due("0", Check.of("d2;p0;").rider(0, 0), 0);
        check.due("3", Check.of("d2;p3;").rider(0, 0), 3);
        check.bad("d2;p4;", 2, 4);
    }

    private void numbers() {
        s.about(HERE, "NUMBERS have one to four figures");
        check.bad("d;", 1, 1);
        check.good("d2;", 0);
        check.good("d0002;", 0);
        check.bad("d00002;", 2, 1);
        check.due("9999", Check.of("d4;n9999 0200;").rollOf(0, 0), 9999);
        check.bad("d4;n09999 0;", 2, 4);

        s.about(HERE, "a word is one letter");
        check.bad("dd2;", 1, 1);
        check.bad("d2;mm0;", 1, 4);
        check.bad("d2;rr0 0 0;", 1, 4);
        check.bad("d2;nn0 0;", 1, 4);
        check.bad("d2;pp0;", 1, 4);

        s.about(HERE, "blanks (32) may stand anywhere but within NUMBERS");
        check.good("  d  2  ;  r  0  0  0  ;  p  0  ;  ", 1);
        check.good("d2;r0 0 0;p0;", 1);
        check.bad("d2;p0 0;", 1, 6);
        check.bad("d2;n1 0 5;", 1, 8);
        for (int letter : new int[] {0, 9, 10, 13, 31, 33, 160}) {
            check.bad((char) letter + "d2;", 1, 0);
            check.bad("d" + (char) letter + "2;", 1, 1);
            check.bad("d2" + (char) letter + ";", 1, 2);
            check.bad("d2;" + (char) letter, 1, 3);
        }

        s.about(HERE, "two NUMBERS side by side need one");
        check.bad("d2;r000;", 1, 7);
        check.bad("d2;r0 00;", 1, 8);
        check.bad("d2;r00 0;", 1, 8);
        check.good("d2;r0 0 0;", 0);
        check.bad("d2;n55;", 1, 6);
        check.good("d2;n5 5;", 0);
    }

    private void faults() {
        s.about(HERE, "FAULTS, at the first letter that has one");
        check.bad("d2;x;p4;", 1, 3);
        check.bad("d2;p4;x;", 2, 4);
        check.bad("d2;m0;m2;", 3, 6);
        check.bad("d2;r0 37 0x", 4, 6);
        check.bad("d2;r0 37 x", 1, 9);
        check.bad("d2;r0 37 100;", 2, 9);
        check.bad("d2;r5 37 0;", 2, 4);
        check.bad("d2;r5 100 0;", 2, 4);

        s.about(HERE, "(the end at the text's length)");
        check.bad("d", 1, 1);
        check.bad("d2", 1, 2);
        check.bad("d2  ", 1, 4);
        check.bad("d2;r0 0", 1, 7);
        check.bad("d2;p", 1, 4);
        check.bad("d2;" + " ".repeat(235) + "p0", 1, 240);

        s.about(HERE, "of these the least");
        // a word, a number that may not stand there: 1 comes ahead of 3 and of 2
        check.bad("d2 d2;", 1, 3);
        check.bad("d2;m0 m0;", 1, 6);
        check.bad("d2;p0;p0;p0;p0;p0 p0;", 1, 18);
        check.bad("99999", 1, 0);
        check.bad("d2 99999;", 1, 3);
        // 2 comes ahead of 4
        check.bad("d2;r0 100 1;", 2, 6);
    }

    private void eachFault() {
        s.about(HERE, "1 it cannot stand there (a letter that is no word, another word first than 'd').");
        for (int letter = 0; letter < 256; letter++) {
            if (letter != ' ' && letter != 'd') {
                check.bad((char) letter + "2;", 1, 0);
            }
            if ("dmrnp ".indexOf(letter) < 0) {
                check.bad("d2;" + (char) letter + "2;", 1, 3);
            }
        }

        s.about(HERE, "2 a NUMBER of five figures or more, or out of its bounds (at its first).");
        check.bad("d2;n  0099  00200;", 2, 12);
        check.bad("d2;n  0100  0200;", 2, 6);
        check.bad("d2;n  00099  0200;", 2, 6);
        check.bad("d2;p " + "0".repeat(200), 2, 5);
        check.bad("d2;p4294967296;", 2, 4);

        s.about(HERE, "3 'd', 'm' again, a fifth 'r', 'n', a sixth 'p' (at it).");
        check.bad("d2;  d", 3, 5);
        check.bad("d2;m0;  m", 3, 8);
        check.bad("d2;" + "r0 0 0;".repeat(4) + "  r", 3, 33);
        check.bad("d2;" + "n0 0;".repeat(4) + "  n", 3, 25);
        check.bad("d2;" + "p0;".repeat(5) + "  p", 3, 20);
        check.good("d2;m1;" + "r0 0 0;".repeat(4) + "n0 0;".repeat(4) + "p0;".repeat(5), 5);

        s.about(HERE, "4 A, B, both in their bounds, are none of the KIND (at the A).");
        check.bad("d2;r  0  37  0;", 4, 9);
        check.bad("d2;r  0  36  1;", 4, 9);
        check.bad("d2;r0 99 99;", 4, 6);
        check.bad("d2;r0 37 100;", 2, 9);
        check.bad("d2;r0 100 1;", 2, 6);
        check.good("d2;r  0  36  0;", 0);
    }

    private void emptyText() {
        s.about(HERE, "An empty text (or one of blanks alone): no TRAM.");
        for (int blanks : new int[] {0, 1, 240}) {
            LuckyTickets x = Check.of("d2;r0 0 0;n0 9;p0;");
            Check.feed(x, " ".repeat(blanks));
            check.due("tram", x.tram(), 0);
            check.due("fault", x.fault(), Check.NONE);
            for (int what = 0; what <= 4; what++) {
                check.due("told(" + what + ")", x.told(what), 0);
            }
            check.due("mode", x.mode(1), Check.NOT);
            check.due("lucky", x.lucky(0, 0), Check.OUTSIDE);
        }
    }

    private void newObject() {
        s.about("Promise 1", "No TRAM.");
        LuckyTickets x = new LuckyTickets();
        int[] want = {0, 0, 0, 0, 0, 0, 0, 0, -1, -1, 0, 0, -1, 0, 0};
        for (int what = 0; what < want.length; what++) {
            check.due("told(" + what + ")", x.told(what), want[what]);
        }
        check.due("mode", x.mode(1), Check.NOT);
        check.due("drift", x.drift(1), Check.NOT);
        check.due("lucky", x.lucky(0, 0), Check.OUTSIDE);
        check.due("goBack(0)", x.goBack(0), Check.NOT);
        check.due("goBack(1)", x.goBack(1), Check.NOT);
        check.due("undo", x.undo(), Check.NOT);
    }

    private void feed() {
        s.about("Promise 2", "One letter (a number 0 .. 255) comes behind THE TEXT: how many it has.");
        LuckyTickets x = new LuckyTickets();
        check.due("feed(-1)", x.feed(-1), Check.OUTSIDE);
        check.due("feed(0)", x.feed(0), 1);
        check.due("feed(255)", x.feed(255), 2);
        check.due("feed(256)", x.feed(256), Check.OUTSIDE);
        check.due("feed(256 + 'd')", x.feed(256 + 'd'), Check.OUTSIDE);
        check.due("letters", x.told(5), 2);

        s.about("Promise 2", "OUTSIDE, FULL (240).");
        LuckyTickets y = new LuckyTickets();
        for (int i = 1; i <= 240; i++) {
            check.due("letter " + i, y.feed(' '), i);
        }
        check.due("letter 241", y.feed(' '), Check.FULL);
        check.due("FULL, but OUTSIDE first", y.feed(-1), Check.OUTSIDE);
        check.due("FULL, but OUTSIDE first", y.feed(256), Check.OUTSIDE);
        check.due("letters", y.told(5), 240);
        check.due("it has room again", y.tram() + y.feed(' '), 1);
    }

    /** A tram with days, a sale to undo, both images, something SEEN and an entry in its BOOK. */
    private static LuckyTickets used() {
        LuckyTickets x = Check.of("d2;r3 2 0;n0 99;p0;p1;");
        x.seed(7);
        x.keep(0);
        x.drift(9);
        x.keep(1);
        x.sell(0, 0);
        x.see(1, true);
        x.write(1, true);
        return x;
    }

    private void tram() {
        s.about("Promise 3", "THE TEXT (it is empty then, with a FAULT, too) becomes THE TRAM");
        LuckyTickets x = used();
        Check.feed(x, "d3;x");
        x.tram();
        check.due("empty with a fault", x.told(5), 0);
        Check.feed(x, "d3;");
        x.tram();
        check.due("empty without one", x.told(5), 0);
        check.due("what was fed ahead of the fault is gone", x.told(0), 3);

        s.about("Promise 3", "DAY 0, all as told, nothing kept; nothing SEEN, no BOOK");
        LuckyTickets y = used();
        Check.feed(y, "d2;n5 6;p0;p1;");
        y.tram();
        check.due("days", y.told(6), 0);
        check.due("next", y.rollOf(0, 0), 5);
        check.due("left", y.rollOf(0, 1), 6);
        check.riderIs(y, 0, 0, 0, 0, 0);
        check.riderIs(y, 1, 0, 0, 0, 0);
        check.due("seen", y.told(10), 0);
        check.due("could be", y.told(11), 171);
        check.due("book", y.told(13), 0);
        check.due("rules", y.told(2), 0);

        s.about("Promise 3", "IMAGES, what could be undone are gone");
        check.due("image 0", y.goBack(0), Check.NOT);
        check.due("image 1", y.goBack(1), Check.NOT);
        check.due("undo", y.undo(), Check.NOT);

        s.about("Promise 3", "THE SEED stays");
        LuckyTickets z = used();
        z.seed(12345);
        Check.feed(z, "d2;");
        z.tram();
        check.due("with a tram", z.seed(54321), 12345);
        z.tram();
        check.due("with an empty text", z.seed(2147483647), 54321);
        z.feed('x');
        z.tram();
        check.due("with a fault", z.seed(0), 2147483647);

        s.about("Promise 3", "how many RIDERS;");
        check.good("d2;", 0);
        check.good("d2;p0;", 1);
        check.good("d2;p0;p1;p2;p3;p0;", 5);
    }

    private void tramRefused() {
        s.about("Promise 3", "-10 less the number of its FAULT (all else is as it was).");
        String[] texts = {"d2;x", "d2;p4;", "d2;d", "d3;m1;r0 37 0;"};
        for (int i = 0; i < texts.length; i++) {
            LuckyTickets x = used();
            Check.feed(x, texts[i]);
            check.due("tram of " + texts[i], x.tram(), -11 - i);
            int[] want = {2, 0, 1, 1, 2, 0, 9, 50};
            for (int what = 0; what < want.length; what++) {
                check.due("told(" + what + ")", x.told(what), want[what]);
            }
            check.due("seen", x.told(10), 1);
            check.due("book", x.told(13), 1);
            check.due("undo", x.undo(), 0);
            check.due("image 1", x.goBack(1), 1);
            check.due("days", x.told(6), 9);
            check.due("image 0", x.goBack(0), 1);
            check.due("days", x.told(6), 0);
            check.due("seed", x.seed(0), 7);
        }
    }

    private void fault() {
        s.about("Promise 4", "The letter of the FAULT of the latest tram(); NONE.");
        LuckyTickets x = new LuckyTickets();
        check.due("no tram() yet", x.fault(), Check.NONE);
        x.feed('x');
        check.due("none yet", x.fault(), Check.NONE);
        x.tram();
        check.due("the first letter", x.fault(), 0);
        Check.feed(x, "d2;p0;d");
        check.due("still the latest tram()", x.fault(), 0);
        x.tram();
        check.due("a later one", x.fault(), 6);
        Check.feed(x, "d2;");
        x.tram();
        check.due("without a fault", x.fault(), Check.NONE);
        x.feed('x');
        x.tram();
        x.tram();
        check.due("an empty text", x.fault(), Check.NONE);
        check.bad("d2;" + " ".repeat(236) + "p", 1, 240);
    }
}
