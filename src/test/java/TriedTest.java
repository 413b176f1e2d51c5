/** Promises 18 to 30: next to dry, see to judge, seed, keep and goBack. */
public final class TriedTest {
    private static final Check check = new Check();

    public static void main(String[] args) {
        next();
        upTo();
        kth();
        waits();
        dry();
        seen();
        could();
        ask();
        book();
        tear();
        judge();
        seed();
        images();
        imagesRefused();
        check.end();
    }

    private static void next() {
        check.part("promise 18, next");
        LuckyTickets x = Check.of("d2;r2 7 2;r0 0 0;");
        check.due("next(0)", x.next(0), 77);
        check.due("next(77)", x.next(77), 77);
        check.due("next(78)", x.next(78), Check.NONE);
        check.due("next(99)", x.next(99), Check.NONE);
        check.due("next(100)", x.next(100), Check.OUTSIDE);
        check.due("next(-1)", x.next(-1), Check.OUTSIDE);
        check.due("no tram", new LuckyTickets().next(0), Check.OUTSIDE);
        check.due("no rules", Check.of("d2;").next(0), Check.NONE);
        check.due("LAST", Check.of("d4;r2 9 4;").next(0), 9999);
        check.due("LAST from LAST", Check.of("d4;r2 9 4;").next(9999), 9999);
        check.due("0", Check.of("d4;r2 0 4;").next(0), 0);
    }

    private static void upTo() {
        check.part("promise 19, upTo");
        LuckyTickets x = Check.of("d2;r3 10 4;");
        check.due("all", x.upTo(0, 99), 10);
        check.due("both ends count", x.upTo(4, 94), 10);
        check.due("from behind the first", x.upTo(5, 94), 9);
        check.due("to ahead of the last", x.upTo(4, 93), 9);
        check.due("one", x.upTo(64, 64), 1);
        check.due("none", x.upTo(65, 65), 0);
        check.due("b is less", x.upTo(64, 63), 0);
        check.due("b is less by much", x.upTo(99, 0), 0);
        check.due("a above LAST", x.upTo(100, 0), Check.OUTSIDE);
        check.due("b above LAST", x.upTo(0, 100), Check.OUTSIDE);
        check.due("a below 0", x.upTo(-1, 5), Check.OUTSIDE);
        check.due("b below 0", x.upTo(5, -1), Check.OUTSIDE);
        check.due("no tram", new LuckyTickets().upTo(0, 0), Check.OUTSIDE);
        check.due("no tram, b less", new LuckyTickets().upTo(1, 0), Check.OUTSIDE);
    }

    private static void kth() {
        check.part("promise 20, kth");
        LuckyTickets x = Check.of("d3;r3 10 4;");
        for (int k = 0; k < 100; k++) {
            check.due("kth(" + k + ")", x.kth(k), 10 * k + 4);
        }
        check.due("kth(100)", x.kth(100), Check.NONE);
        check.due("kth(max)", x.kth(Integer.MAX_VALUE), Check.NONE);
        check.due("kth(-1)", x.kth(-1), Check.OUTSIDE);
        check.due("no tram", new LuckyTickets().kth(0), Check.NONE);
        check.due("no tram, below 0", new LuckyTickets().kth(-1), Check.OUTSIDE);
    }

    private static void waits() {
        check.part("promise 21, waits");
        LuckyTickets x = Check.of("d2;r3 10 4;");
        check.due("how much", x.waits(0), 10);
        check.due("of like ones the least", x.waits(1), 4);
        check.due("waits(2)", x.waits(2), Check.OUTSIDE);
        check.due("waits(-1)", x.waits(-1), Check.OUTSIDE);
        LuckyTickets mirror = Check.of("d3;r1 0 0;r2 0 2;");
        // 010, 020 .. 090
        check.due("how much", mirror.waits(0), 10);
        check.due("the lower one", mirror.waits(1), 10);
        LuckyTickets rising = Check.of("d3;r4 0 0;r2 9 2;");
        check.due("how much", rising.waits(0), 100);
        check.due("the lower one", rising.waits(1), 99);
        check.due("one alone", Check.of("d2;r2 7 2;").waits(0), Check.NONE);
        check.due("one alone", Check.of("d2;r2 7 2;").waits(1), Check.NONE);
        check.due("none", Check.of("d2;").waits(0), Check.NONE);
        check.due("no tram", new LuckyTickets().waits(1), Check.NONE);
        check.due("no tram, OUTSIDE", new LuckyTickets().waits(2), Check.OUTSIDE);
        LuckyTickets ends = Check.of("d2;m1;r2 0 2;r2 9 2;");
        check.due("from 0 to LAST", ends.waits(0), 99);
        check.due("the lower one is 0", ends.waits(1), 0);
    }

    private static void dry() {
        check.part("promise 22, dry");
        LuckyTickets x = new LuckyTickets();
        check.due("no days", x.dry(0, 0), 1000000000);
        check.due("never", x.dry(1, 0), 0);
        check.due("always", x.dry(60, 100), 1000000000);
        check.due("a half, thrice", x.dry(3, 50), 125000000);
        // 1000000000, 330000000, 108900000, 35937000, 11859210, 3913539 (cut), 1291467 (cut)
        check.due("33, 5 days", x.dry(5, 33), 3913539);
        check.due("33, 6 days", x.dry(6, 33), 1291467);
        check.due("1, 5 days", x.dry(5, 1), 0);
        check.due("n below 0", x.dry(-1, 0), Check.OUTSIDE);
        check.due("n above 60", x.dry(61, 0), Check.OUTSIDE);
        check.due("q below 0", x.dry(0, -1), Check.OUTSIDE);
        check.due("q above 100", x.dry(0, 101), Check.OUTSIDE);
        check.due("with a tram, too", Check.of("d2;").dry(2, 10), 10000000);
    }

    private static void seen() {
        check.part("promise 23, see");
        LuckyTickets x = Check.of("d2;");
        check.due("above LAST", x.see(100, true), Check.OUTSIDE);
        check.due("below 0", x.see(-1, true), Check.OUTSIDE);
        check.due("no tram", new LuckyTickets().see(0, true), Check.OUTSIDE);
        for (int i = 1; i <= 8; i++) {
            check.due("see", x.see(99, true), i);
        }
        check.due("a ninth", x.see(99, false), Check.FULL);
        check.due("OUTSIDE comes ahead of FULL", x.see(100, false), Check.OUTSIDE);
        check.due("seen", x.told(10), 8);
        check.due("FULL changes nothing", x.told(11), 37 + 3 + 10 + 11 + 4);
        check.due("it is not to undo", x.told(14), 0);
    }

    private static void could() {
        check.part("promise 24, could");
        check.due("no tram", new LuckyTickets().could(0, 0), Check.NONE);
        check.due("no tram, OUTSIDE", new LuckyTickets().could(0, 3), Check.OUTSIDE);
        LuckyTickets x = Check.of("d4;");
        int i = 0;
        for (int kind = 0; kind < 5; kind++) {
            int lowest = kind == 3 ? 2 : 0;
            int highest = new int[] {36, 2, 9, 12, 3}[kind];
            for (int a = lowest; a <= highest; a++) {
                int end = kind == 2 ? 5 : kind == 3 ? a : 1;
                for (int b = 0; b < end; b++) {
                    check.due("kind of " + i, x.could(i, 0), kind);
                    if (i % 3 == 0) {
                        check.due("A of " + i, x.could(i, 1), a);
                        check.due("B of " + i, x.could(i, 2), b);
                    }
                    i++;
                }
            }
        }
        check.due("all", i, 171);
        check.due("told(11)", x.told(11), 171);
        check.due("the last one's A", x.could(170, 1), 3);
        check.due("behind the last", x.could(171, 0), Check.NONE);
        check.due("below 0", x.could(-1, 0), Check.NONE);
        check.due("what 3", x.could(0, 3), Check.OUTSIDE);
        check.due("what -1", x.could(0, -1), Check.OUTSIDE);
        check.due("what 3, behind the last", x.could(171, 3), Check.OUTSIDE);
        // 9900: halves differ by 18; no mirror by 1; 0 and 9 are there twice; rising falls once
        x.see(9900, true);
        check.due("halves, mirror 2, counts, rests, rising", x.told(11), 19 + 1 + 10 + 11 + 3);
        check.due("the first's A", x.could(0, 1), 18);
        x.see(9900, false);
        check.due("none fits both", x.told(11), 0);
        check.due("none", x.could(0, 0), Check.NONE);
        check.due("nothing to ask", x.told(12), Check.NONE);
        check.due("the tram's own rules do not matter", Check.of("d4;r0 0 0;").told(11), 171);
    }

    private static void ask() {
        check.part("ASK");
        LuckyTickets one = Check.of("d2;");
        check.due("no tram", new LuckyTickets().told(12), Check.NONE);
        one.see(10, false);
        one.see(11, true);
        one.see(21, false);
        one.see(32, false);
        one.see(12, false);
        one.see(99, true);
        one.see(0, true);
        one.see(76, false);
        // left: HALVES 0, MIRROR 0 and REST 11 0, which no number below 100 tells apart
        check.due("left", one.told(11), 3);
        check.due("kinds", one.could(0, 0) * 100 + one.could(1, 0) * 10 + one.could(2, 0), 13);
        check.due("none parts them", one.told(12), Check.NONE);
        LuckyTickets x = Check.of("d2;");
        x.see(0, true);
        x.see(99, false);
        x.see(54, true);
        // 0 and 54, but not 99: REST 2 0, 3.. not (99), 6 0, COUNT 9 0
        check.due("left", x.told(11), 3);
        check.due("first", x.could(0, 0) * 10000 + x.could(0, 1) * 100 + x.could(0, 2), 20900);
        check.due("second", x.could(1, 0) * 10000 + x.could(1, 1) * 100 + x.could(1, 2), 30200);
        check.due("third", x.could(2, 0) * 10000 + x.could(2, 1) * 100 + x.could(2, 2), 30600);
        check.due("1 is told by COUNT alone", x.told(12), 1);
        x.see(1, true);
        check.due("one left", x.told(11), 1);
        check.due("one alone is not parted", x.told(12), Check.NONE);
    }

    private static void book() {
        check.part("promise 25, write");
        LuckyTickets x = Check.of("d2;");
        check.due("above LAST", x.write(100, true), Check.OUTSIDE);
        check.due("below 0", x.write(-1, true), Check.OUTSIDE);
        check.due("no tram", new LuckyTickets().write(0, true), Check.OUTSIDE);
        for (int i = 1; i <= 15; i++) {
            check.due("write", x.write(99, false), i);
        }
        check.due("a sixteenth", x.write(0, true), Check.FULL);
        check.due("OUTSIDE comes ahead of FULL", x.write(100, true), Check.OUTSIDE);
        check.due("entries", x.told(13), 15);
        check.due("FULL changes nothing", x.judge(), Check.NONE);
    }

    private static void tear() {
        check.part("promise 26, tear");
        LuckyTickets x = Check.of("d2;r0 0 0;");
        check.due("nothing", x.tear(), 0);
        check.due("no tram", new LuckyTickets().tear(), 0);
        check.due("all could be", x.told(11), 171);
        x.see(1, true);
        x.see(2, true);
        x.write(3, true);
        check.due("before, false", x.judge(), 0);
        check.holds("before, another one is asked", x.told(12) != Check.of("d2;").told(12));
        check.due("both", x.tear(), 3);
        check.due("seen", x.told(10), 0);
        check.due("could be", x.told(11), 171);
        check.due("ask", x.told(12), Check.of("d2;").told(12));
        check.due("book", x.told(13), 0);
        check.due("false", x.judge(), Check.NONE);
        check.due("again", x.tear(), 0);
        check.due("see", x.see(1, false), 1);
        check.due("write", x.write(1, false), 1);
        LuckyTickets none = new LuckyTickets();
        none.tear();
        check.due("no tram, could be", none.told(11), 0);
    }

    private static void judge() {
        check.part("promise 27, judge");
        LuckyTickets x = Check.of("d2;r0 0 0;r3 2 0;");
        check.due("empty", x.judge(), Check.NONE);
        x.write(22, true);
        x.write(33, false);
        x.write(12, false);
        check.due("all is so", x.judge(), Check.NONE);
        x.mode(1);
        check.due("the first that is otherwise", x.judge(), 1);
        x.rule(0, 2, 9, 2);
        check.due("33 is not lucky now", x.judge(), 2);
        x.undo();
        check.due("undone", x.judge(), 1);
        x.undo();
        check.due("undone", x.judge(), Check.NONE);
        x.write(44, false);
        check.due("the last", x.judge(), 3);
        check.due("no tram", new LuckyTickets().judge(), Check.NONE);
    }

    private static void seed() {
        check.part("promise 28, seed");
        LuckyTickets x = new LuckyTickets();
        check.due("0 at first", x.seed(2147483647), 0);
        check.due("what it was", x.seed(5), 2147483647);
        check.due("below 0", x.seed(-1), Check.OUTSIDE);
        check.due("below 0", x.seed(Integer.MIN_VALUE), Check.OUTSIDE);
        check.due("nothing changes", x.seed(0), 5);
    }

    private static void images() {
        check.part("promises 29 and 30, keep and goBack");
        LuckyTickets x = Check.of("d2;r3 2 0;n0 100;p0;");
        x.seed(10);
        x.sell(0, 0);
        check.due("keep(0)", x.keep(0), 1);
        check.due("nothing can be undone then", x.told(14), 0);
        x.mode(1);
        x.rule(0, 3, 5, 0);
        x.drift(40);
        x.see(1, true);
        x.write(1, true);
        int seed = x.seed(20);
        check.holds("the seed was drawn from", seed != 10);
        x.seed(seed);
        int left = x.rollOf(0, 1);
        check.due("keep(1)", x.keep(1), 1);
        check.due("nothing can be undone then", x.undo(), Check.NOT);
        x.mode(0);
        check.due("goBack(0)", x.goBack(0), 1);
        check.due("nothing can be undone then", x.undo(), Check.NOT);
        check.due("mode", x.told(1), 0);
        check.due("days", x.told(6), 0);
        check.due("how many are lucky", x.told(7), 50);
        check.due("left", x.rollOf(0, 1), 99);
        check.due("kept", x.rider(0, 1), 1);
        check.due("lucky kept", x.rider(0, 2), 1);
        check.due("seen stays", x.told(10), 1);
        check.due("the book stays", x.told(13), 1);
        check.due("the seed", x.seed(11), 10);
        check.due("goBack(1)", x.goBack(1), 1);
        check.due("mode", x.told(1), 1);
        check.due("days", x.told(6), 40);
        check.due("how many are lucky", x.told(7), 20);
        check.due("left", x.rollOf(0, 1), left);
        check.due("the seed", x.seed(12), seed);
        check.due("goBack(0) again", x.goBack(0), 1);
        check.due("what was done since does not reach it", x.rollOf(0, 1), 99);
        check.due("the seed", x.seed(13), 10);
        x.sell(0, 0);
        check.due("kept anew", x.keep(0), 1);
        x.sell(0, 0);
        x.goBack(0);
        check.due("left", x.rollOf(0, 1), 98);
        check.due("the seed", x.seed(14), 13);
    }

    private static void imagesRefused() {
        check.part("promises 29 and 30, refused");
        LuckyTickets x = Check.of("d2;n0 100;p0;");
        x.sell(0, 0);
        check.due("keep(-1)", x.keep(-1), Check.UNKNOWN);
        check.due("keep(2)", x.keep(2), Check.UNKNOWN);
        check.due("goBack(-1)", x.goBack(-1), Check.UNKNOWN);
        check.due("goBack(2)", x.goBack(2), Check.UNKNOWN);
        check.due("goBack(0)", x.goBack(0), Check.NOT);
        check.due("goBack(1)", x.goBack(1), Check.NOT);
        check.due("nothing changes", x.undo(), 0);
        x.keep(1);
        check.due("goBack(0)", x.goBack(0), Check.NOT);
        check.due("goBack(1)", x.goBack(1), 1);
        LuckyTickets none = new LuckyTickets();
        none.seed(7);
        check.due("no tram, keep", none.keep(0), 1);
        none.seed(8);
        check.due("no tram, goBack", none.goBack(0), 1);
        check.due("no tram, the seed", none.seed(0), 7);
        check.due("no tram", none.told(0), 0);
    }
}
