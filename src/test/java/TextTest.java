/** Promises 1 to 4: a new object, feed, tram and fault. */
public final class TextTest {
    private static final Check check = new Check();

    public static void main(String[] args) {
        newObject();
        letters();
        goodTexts();
        noTram();
        cannotStand();
        outOfBounds();
        tooMany();
        noneOfKind();
        firstFault();
        faultLeavesAll();
        tramStartsAnew();
        check.end();
    }

    private static void newObject() {
        check.part("promise 1, a new object");
        LuckyTickets x = new LuckyTickets();
        int[] want = {0, 0, 0, 0, 0, 0, 0, 0, -1, -1, 0, 0, -1, 0, 0};
        for (int what = 0; what < want.length; what++) {
            check.due("told(" + what + ")", x.told(what), want[what]);
        }
        check.due("fault", x.fault(), Check.NONE);
        check.due("seed", x.seed(0), 0);
        check.due("ruleOf", x.ruleOf(0, 0), Check.UNKNOWN);
        check.due("rollOf", x.rollOf(0, 0), Check.UNKNOWN);
        check.due("rider", x.rider(0, 0), Check.UNKNOWN);
        check.due("goBack", x.goBack(0), Check.NOT);
        check.due("undo", x.undo(), Check.NOT);
    }

    private static void letters() {
        check.part("promise 2, feed");
        LuckyTickets x = new LuckyTickets();
        check.due("feed(-1)", x.feed(-1), Check.OUTSIDE);
        check.due("feed(256)", x.feed(256), Check.OUTSIDE);
        check.due("feed(0)", x.feed(0), 1);
        check.due("feed(255)", x.feed(255), 2);
        for (int i = 3; i <= 240; i++) {
            check.due("feed(32)", x.feed(32), i);
        }
        check.due("a letter more", x.feed(32), Check.FULL);
        check.due("OUTSIDE comes ahead of FULL", x.feed(256), Check.OUTSIDE);
        check.due("letters", x.told(5), 240);
        check.due("tram", x.tram(), -11);
        check.due("the text is empty then", x.told(5), 0);
        check.due("feed", x.feed(32), 1);
    }

    private static void goodTexts() {
        check.part("promise 3, texts without a fault");
        check.good("d2;", 0);
        check.good("d0004;", 0);
        check.good("  d  2  ;  ", 0);
        check.good("d2;p0;p1;p2;p3;p0003;", 5);
        check.good("d2;m1;", 0);
        check.good("d2;p3;m0;n99 200;r4 3 0;n0 0;p0;", 2);
        check.good("d4;n9999 0200;", 0);
        check.good("d3;r0 36 0;r1 2 0;r2 9 4;r3 12 11;", 0);
        check.good("d3;r0 0 0;r2 0 0;r3 2 0;r4 0 0;", 0);
        check.good("d2;" + " ".repeat(237), 0);
        LuckyTickets x = Check.of(" d 3 ; p 2 ; r 2 7 3 ; m 1 ; n 12 34 ; p 1 ; n 998 5 ; r 3 5 4 ; ");
        int[] want = {3, 1, 2, 2, 2, 0, 0};
        for (int what = 0; what < want.length; what++) {
            check.due("told(" + what + ")", x.told(what), want[what]);
        }
        check.due("first rider", x.rider(0, 0), 2);
        check.due("second rider", x.rider(1, 0), 1);
        check.due("first rule, kind", x.ruleOf(0, 0), 2);
        check.due("first rule, A", x.ruleOf(0, 1), 7);
        check.due("first rule, B", x.ruleOf(0, 2), 3);
        check.due("second rule, kind", x.ruleOf(1, 0), 3);
        check.due("second rule, A", x.ruleOf(1, 1), 5);
        check.due("second rule, B", x.ruleOf(1, 2), 4);
        check.due("first roll", x.rollOf(0, 0), 12);
        check.due("first roll, left", x.rollOf(0, 1), 34);
        check.due("second roll", x.rollOf(1, 0), 998);
        check.due("second roll, left", x.rollOf(1, 1), 5);
        check.due("mode is 0 untold", Check.of("d2;").told(1), 0);
    }

    private static void noTram() {
        check.part("promise 3, an empty text");
        for (String empty : new String[] {"", " ", "     "}) {
            LuckyTickets x = Check.of("d2;m1;r0 0 0;n0 9;p0;");
            x.sell(0, 0);
            x.see(1, true);
            x.write(1, true);
            x.keep(0);
            x.drift(5);
            Check.feed(x, empty);
            check.due("tram", x.tram(), 0);
            check.due("fault", x.fault(), Check.NONE);
            int[] want = {0, 0, 0, 0, 0, 0, 0, 0, -1, -1, 0, 0, -1, 0, 0};
            for (int what = 0; what < want.length; what++) {
                check.due("told(" + what + ")", x.told(what), want[what]);
            }
            check.due("goBack", x.goBack(0), Check.NOT);
            check.due("rider", x.rider(0, 0), Check.UNKNOWN);
            check.due("lucky", x.lucky(0, 0), Check.OUTSIDE);
        }
    }

    private static void cannotStand() {
        check.part("fault 1");
        check.bad("p0;", 1, 0);
        check.bad("m0;", 1, 0);
        check.bad("r0 0 0;", 1, 0);
        check.bad("n0 0;", 1, 0);
        check.bad("  n0 0;", 1, 2);
        check.bad(";", 1, 0);
        check.bad("7", 1, 0);
        check.bad("x", 1, 0);
        check.bad("\u0000", 1, 0);
        check.bad("\t", 1, 0);
        check.bad("D2;", 1, 0);
        check.bad("d", 1, 1);
        check.bad("d  ", 1, 3);
        check.bad("d;", 1, 1);
        check.bad("d2", 1, 2);
        check.bad("d2  ", 1, 4);
        check.bad("d2 3;", 1, 3);
        check.bad("d2 33333;", 1, 3);
        check.bad("d2;;", 1, 3);
        check.bad("d2;q1;", 1, 3);
        check.bad("d2;5", 1, 3);
        check.bad("d2;\u00ff", 1, 3);
        check.bad("d2;m", 1, 4);
        check.bad("d2;m-1;", 1, 4);
        check.bad("d2;m0 m", 1, 6);
        check.bad("d2;r0;", 1, 5);
        check.bad("d2;r0 0;", 1, 7);
        check.bad("d2;r0 0 0 0;", 1, 10);
        check.bad("d2;r0 37;", 1, 8);
        check.bad("d2;r0 37", 1, 8);
        check.bad("d2;r0 37 x", 1, 9);
        check.bad("d2;n5;", 1, 5);
        check.bad("d2;n5 5 5;", 1, 8);
        check.bad("d2;p0p0;", 1, 5);
        check.bad("d2;dp", 3, 3);
        check.bad("d2p0;", 1, 2);
        check.bad("d2d", 1, 2);
    }

    private static void outOfBounds() {
        check.part("fault 2");
        check.bad("d1;", 2, 1);
        check.bad("d5;", 2, 1);
        check.bad("d0", 2, 1);
        check.bad("d  12345", 2, 3);
        check.bad("d00002;", 2, 1);
        check.bad("d9x", 2, 1);
        check.bad("d2;m2;", 2, 4);
        check.bad("d2;m00000;", 2, 4);
        check.bad("d2;r5 0 0;", 2, 4);
        check.bad("d2;r0 100 0;", 2, 6);
        check.bad("d2;r0 0 100;", 2, 8);
        check.bad("d2;r0 37 100;", 2, 9);
        check.bad("d2;r0 37 00000;", 2, 9);
        check.bad("d2;r0 370;", 2, 6);
        check.bad("d2;n100 0;", 2, 4);
        check.bad("d3;n1000 0;", 2, 4);
        check.bad("d4;n10000 0;", 2, 4);
        check.bad("d2;n0 201;", 2, 6);
        check.bad("d2;n0 201", 2, 6);
        check.bad("d2;p4;", 2, 4);
        check.bad("d2;p 99999999999999999999;", 2, 5);
    }

    private static void tooMany() {
        check.part("fault 3");
        check.bad("d2;d", 3, 3);
        check.bad("d2;d2;", 3, 3);
        check.bad("d2;m0;m", 3, 6);
        check.bad("d2;m0;p0;m1;", 3, 9);
        check.bad("d2;r0 0 0;r0 0 0;r0 0 0;r0 0 0;r", 3, 31);
        check.bad("d2;n0 0;n0 0;n0 0;n0 0; n9", 3, 24);
        check.bad("d2;p0;p0;p0;p0;p0;p9;", 3, 18);
        check.good("d2;r0 0 0;r0 0 0;r0 0 0;r0 0 0;n0 0;n0 0;n0 0;n0 0;p0;p0;p0;p0;p0;m1;", 5);
    }

    private static void noneOfKind() {
        check.part("fault 4");
        String[] none = {"0 37 0", "0 99 0", "0 0 1", "1 3 0", "1 0 1", "2 10 0", "2 0 5", "3 0 0", "3 1 0", "3 13 0",
            "3 2 2", "3 12 12", "4 4 0", "4 0 1"};
        for (String rule : none) {
            check.bad("d2;r" + rule + ";", 4, 6);
            check.bad("d4;p0; r  " + rule + ";", 4, 12);
        }
        check.bad("d2;r0 37 0", 4, 6);
        check.bad("d2;r0 37 0x", 4, 6);
        check.bad("d2;r0 37 0 0;", 4, 6);
        check.bad("d2;r0 0037 0;", 4, 6);
    }

    private static void firstFault() {
        check.part("the first fault");
        check.bad("d2;p9;x", 2, 4);
        check.bad("d2;x;p9;", 1, 3);
        check.bad("d2;r0 37 0;p9;", 4, 6);
        check.bad("d2;r9 37 0;", 2, 4);
        check.bad("d2;m0;m5;", 3, 6);
        LuckyTickets x = new LuckyTickets();
        Check.feed(x, "d2;p9;");
        x.tram();
        check.due("fault", x.fault(), 4);
        check.due("it stays", x.fault(), 4);
        Check.feed(x, "d2;p1;");
        check.due("it stays while letters come", x.fault(), 4);
        check.due("tram", x.tram(), 1);
        check.due("fault of the latest", x.fault(), Check.NONE);
    }

    private static void faultLeavesAll() {
        check.part("promise 3, a fault leaves all as it was");
        LuckyTickets x = Check.of("d2;r3 2 0;n10 50;p0;p0;");
        x.seed(77);
        x.keep(1);
        x.sell(0, 0);
        x.see(11, true);
        x.write(11, false);
        x.drift(3);
        int left = x.rollOf(0, 1);
        int seed = x.seed(5);
        int kept = x.rider(0, 1);
        x.seed(seed);
        Check.feed(x, "d3;m1;p0;p9;");
        check.due("tram", x.tram(), -12);
        int[] want = {2, 0, 1, 1, 2, 0, 3, 50};
        for (int what = 0; what < want.length; what++) {
            check.due("told(" + what + ")", x.told(what), want[what]);
        }
        check.due("seen", x.told(10), 1);
        check.due("book", x.told(13), 1);
        check.due("can be undone", x.told(14), 2);
        check.due("left", x.rollOf(0, 1), left);
        check.due("kept", x.rider(0, 1), kept);
        check.due("seed", x.seed(1), seed);
        check.due("image", x.goBack(1), 1);
        check.due("its seed", x.seed(1), 77);
        check.due("its roll", x.rollOf(0, 1), 50);
    }

    private static void tramStartsAnew() {
        check.part("promise 3, a tram starts anew");
        LuckyTickets x = Check.of("d2;m1;r3 2 0;n10 50;p0;p0;");
        x.seed(77);
        x.keep(0);
        x.keep(1);
        x.line(0, 20);
        x.see(11, true);
        x.write(11, false);
        x.drift(3);
        int seed = x.seed(0);
        x.seed(seed);
        Check.feed(x, "d3;r4 0 0;n7 8;p0;");
        check.due("tram", x.tram(), 1);
        int[] want = {3, 0, 1, 1, 1, 0, 0, 220, 0, 0, 0, 171, 0, 0, 0};
        for (int what = 0; what < want.length; what++) {
            check.due("told(" + what + ")", x.told(what), want[what]);
        }
        for (int what = 0; what < 5; what++) {
            check.due("rider(0, " + what + ")", x.rider(0, what), 0);
        }
        check.due("the second rider is gone", x.rider(1, 0), Check.UNKNOWN);
        check.due("images are gone", x.goBack(0), Check.NOT);
        check.due("images are gone", x.goBack(1), Check.NOT);
        check.due("nothing can be undone", x.undo(), Check.NOT);
        check.due("the seed stays", x.seed(0), seed);
        sameRuleOtherFigures();
    }

    private static void sameRuleOtherFigures() {
        check.part("promise 3, the same rules with other figures");
        LuckyTickets x = new LuckyTickets();
        String[] texts = {"d2;r3 2 0;", "d4;r3 2 0;", "d3;r3 2 0;", "d3;m1;r3 2 0;r4 0 0;", "d3;r4 0 0;", "d3;m1;r4 0 0;r3 2 0;",
            "d2;m1;r4 0 0;r3 2 0;", "", "d2;m1;r4 0 0;r3 2 0;", "d3;", "d3;m1;r4 0 0;r3 2 0;"};
        int[] want = {50, 5000, 500, 625, 220, 625, 80, 0, 80, 0, 625};
        for (int i = 0; i < texts.length; i++) {
            Check.feed(x, texts[i]);
            x.tram();
            check.due("lucky ones of " + texts[i], x.told(7), want[i]);
        }
    }
}
