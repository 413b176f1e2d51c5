/** Promises 5 to 9: told, ruleOf, rollOf, rider and lucky. */
public final class TramTest {
    private static final Check check = new Check();

    public static void main(String[] args) {
        toldOutside();
        best();
        luckiest();
        rules();
        without();
        rolls();
        parts();
        riders();
        luckyByEachKind();
        luckyByModes();
        luckyOutside();
        check.end();
    }

    private static void toldOutside() {
        check.part("promise 5, told");
        LuckyTickets x = Check.of("d2;m1;r0 0 0;n5 6;p0;p1;");
        check.due("told(-1)", x.told(-1), Check.OUTSIDE);
        check.due("told(15)", x.told(15), Check.OUTSIDE);
        check.due("told(min)", x.told(Integer.MIN_VALUE), Check.OUTSIDE);
        check.due("told(max)", x.told(Integer.MAX_VALUE), Check.OUTSIDE);
        x.feed('d');
        x.drift(7);
        x.see(1, true);
        x.see(2, true);
        x.write(1, true);
        int[] want = {2, 1, 1, 1, 2, 1, 7, 10};
        for (int what = 0; what < want.length; what++) {
            check.due("told(" + what + ")", x.told(what), want[what]);
        }
        check.due("told(10)", x.told(10), 2);
        check.due("told(13)", x.told(13), 1);
        check.due("told(14)", x.told(14), 1);
        check.due("without rules none is lucky, all", Check.of("d2;").told(7), 0);
        check.due("without rules none is lucky, any", Check.of("d2;m1;").told(7), 0);
    }

    private static void best() {
        check.part("promise 5, BEST");
        check.due("no rolls", Check.of("d2;r0 0 0;").told(8), Check.NONE);
        check.due("none left", Check.of("d2;r0 0 0;n0 0;").told(8), Check.NONE);
        check.due("none lucky", Check.of("d2;n0 9;").told(8), Check.NONE);
        check.due("soonest", Check.of("d2;r0 0 0;n5 60;n50 60;n54 60;n12 60;").told(8), 2);
        check.due("of like ones the least", Check.of("d2;r0 0 0;n5 60;n50 60;n10 60;n21 60;").told(8), 2);
        check.due("just out of reach", Check.of("d2;r0 0 0;n10 1;n5 7;").told(8), 1);
    }

    private static void luckiest() {
        check.part("promise 5, LUCKIEST");
        check.due("no riders", Check.of("d2;").told(9), Check.NONE);
        check.due("of like ones the least", Check.of("d2;p2;p0;").told(9), 0);
        LuckyTickets x = Check.of("d2;r3 2 0;n0 200;p2;p1;p0;p3;");
        x.sell(0, 0);
        check.due("torn up does not count", x.told(9), 0);
        x.sell(0, 2);
        check.due("kept without luck does not count", x.told(9), 0);
        x.sell(0, 2);
        check.due("lucky kept counts", x.told(9), 2);
        x.roll(0, 0, 100);
        x.sell(0, 1);
        check.due("eaten counts, the least of like ones", x.told(9), 1);
        x.roll(0, 0, 100);
        x.sell(0, 3);
        x.roll(0, 0, 100);
        x.sell(0, 3);
        check.due("most", x.told(9), 3);
        x.give(2, 1);
        check.due("kept and eaten together, the least of like ones", x.told(9), 1);
    }

    private static void rules() {
        check.part("promise 6, ruleOf");
        LuckyTickets x = Check.of("d3;r0 36 0;r2 9 4;r3 12 11;r4 3 0;");
        int[][] want = {{0, 36, 0}, {2, 9, 4}, {3, 12, 11}, {4, 3, 0}};
        for (int r = 0; r < 4; r++) {
            for (int what = 0; what < 3; what++) {
                check.due("ruleOf(" + r + ", " + what + ")", x.ruleOf(r, what), want[r][what]);
            }
            check.due("what 4", x.ruleOf(r, 4), Check.OUTSIDE);
            check.due("what -1", x.ruleOf(r, -1), Check.OUTSIDE);
        }
        check.due("ruleOf(4, 0)", x.ruleOf(4, 0), Check.UNKNOWN);
        check.due("ruleOf(-1, 0)", x.ruleOf(-1, 0), Check.UNKNOWN);
        check.due("UNKNOWN comes ahead of OUTSIDE", x.ruleOf(4, 9), Check.UNKNOWN);
    }

    private static void without() {
        check.part("promise 6, WITHOUT");
        check.due("the only one", Check.of("d2;r0 0 0;").ruleOf(0, 3), 99990);
        check.due("the only one, any", Check.of("d2;m1;r3 2 0;").ruleOf(0, 3), 99950);
        LuckyTickets all = Check.of("d2;r3 2 0;r3 5 0;");
        check.due("all, the first", all.ruleOf(0, 3), 100010);
        check.due("all, the second", all.ruleOf(1, 3), 100040);
        all.mode(1);
        check.due("any, the first", all.ruleOf(0, 3), 99960);
        check.due("any, the second", all.ruleOf(1, 3), 99990);
        check.due("the same twice", Check.of("d4;r3 2 0;r3 2 0;").ruleOf(1, 3), 100000);
    }

    private static void rolls() {
        check.part("promise 7, rollOf");
        LuckyTickets x = Check.of("d2;r2 7 2;n70 50;n78 200;n78 98;n77 1;p0;p0;p0;");
        int[][] want = {{70, 50, 7, 1, 1, 50}, {78, 200, 99, 0, 1, 100}, {78, 98, -1, -1, 0, 1}, {77, 1, 0, 0, 1, 1}};
        for (int r = 0; r < 4; r++) {
            for (int what = 0; what < 6; what++) {
                check.due("rollOf(" + r + ", " + what + ")", x.rollOf(r, what), want[r][what]);
            }
            check.due("what 6", x.rollOf(r, 6), Check.OUTSIDE);
            check.due("what -1", x.rollOf(r, -1), Check.OUTSIDE);
        }
        check.due("rollOf(4, 0)", x.rollOf(4, 0), Check.UNKNOWN);
        check.due("rollOf(-1, 0)", x.rollOf(-1, 0), Check.UNKNOWN);
        check.due("UNKNOWN comes ahead of OUTSIDE", x.rollOf(4, 9), Check.UNKNOWN);
        check.due("no riders, SOON", Check.of("d2;r2 7 2;n70 50;").rollOf(0, 2), 7);
        check.due("no riders, WHO", Check.of("d2;r2 7 2;n70 50;").rollOf(0, 3), Check.NONE);
    }

    private static void parts() {
        check.part("promise 7, PART");
        LuckyTickets x = Check.of("d2;r3 2 0;n0 9;n0 0;n1 1;n0 200;");
        int[][] want = {{5, 9}, {0, 1}, {0, 1}, {1, 2}};
        for (int r = 0; r < 4; r++) {
            check.due("above of " + r, x.rollOf(r, 4), want[r][0]);
            check.due("below of " + r, x.rollOf(r, 5), want[r][1]);
        }
        LuckyTickets all = Check.of("d2;r0 36 0;n5 30;n98 4;");
        check.due("all lucky, above", all.rollOf(0, 4), 1);
        check.due("all lucky, below", all.rollOf(0, 5), 1);
        LuckyTickets turned = Check.of("d2;r4 0 0;n98 4;");
        check.due("behind LAST comes 0, above", turned.rollOf(0, 4), 3);
        check.due("behind LAST comes 0, below", turned.rollOf(0, 5), 4);
    }

    private static void riders() {
        check.part("promise 8, rider");
        LuckyTickets x = Check.of("d2;p3;p1;");
        check.due("rider(0, 0)", x.rider(0, 0), 3);
        check.due("rider(1, 0)", x.rider(1, 0), 1);
        check.due("rider(2, 0)", x.rider(2, 0), Check.UNKNOWN);
        check.due("rider(-1, 0)", x.rider(-1, 0), Check.UNKNOWN);
        check.due("rider(0, 5)", x.rider(0, 5), Check.OUTSIDE);
        check.due("rider(0, -1)", x.rider(0, -1), Check.OUTSIDE);
        check.due("UNKNOWN comes ahead of OUTSIDE", x.rider(2, 9), Check.UNKNOWN);
    }

    private static void says(String figures, String rule, int n, int yes) {
        LuckyTickets x = Check.of("d" + figures + ";r" + rule + ";");
        check.due("d" + figures + " r" + rule + " of " + n, x.lucky(n, 0), yes);
        check.due("SET, d" + figures + " r" + rule + " of " + n, x.lucky(n, 1), yes);
    }

    private static void luckyByEachKind() {
        check.part("promise 9, HALVES");
        says("4", "0 0 0", 1230, 1);
        says("4", "0 0 0", 1231, 0);
        says("4", "0 17 0", 9900, 0);
        says("4", "0 18 0", 9900, 1);
        says("4", "0 18 0", 99, 1);
        says("3", "0 0 0", 292, 1);
        says("3", "0 1 0", 291, 1);
        says("3", "0 1 0", 290, 0);
        says("3", "0 1 0", 103, 0);
        says("2", "0 0 0", 0, 1);
        check.part("promise 9, MIRROR");
        says("4", "1 0 0", 1221, 1);
        says("4", "1 0 0", 1231, 0);
        says("4", "1 1 0", 1231, 1);
        says("4", "1 1 0", 1232, 0);
        says("4", "1 2 0", 1234, 1);
        says("3", "1 0 0", 95, 0);
        says("3", "1 0 0", 50, 1);
        says("2", "1 1 0", 12, 1);
        says("2", "1 0 0", 12, 0);
        check.part("promise 9, COUNT");
        says("4", "2 7 2", 7074, 1);
        says("4", "2 7 2", 7774, 0);
        says("4", "2 7 0", 1234, 1);
        says("4", "2 0 3", 5, 1);
        says("3", "2 0 3", 5, 0);
        says("4", "2 0 4", 0, 1);
        says("2", "2 9 4", 99, 0);
        check.part("promise 9, REST");
        says("4", "3 7 3", 10, 1);
        says("4", "3 7 3", 11, 0);
        says("4", "3 12 11", 9995, 1);
        says("2", "3 2 0", 0, 1);
        check.part("promise 9, RISING");
        says("4", "4 0 0", 1123, 1);
        says("4", "4 0 0", 1132, 0);
        says("4", "4 1 0", 1132, 1);
        says("4", "4 1 0", 3210, 0);
        says("4", "4 2 0", 3210, 0);
        says("4", "4 3 0", 3210, 1);
        says("2", "4 0 0", 9, 1);
        says("2", "4 0 0", 10, 0);
    }

    private static void luckyByModes() {
        check.part("promise 9, ALL and ANY");
        LuckyTickets x = Check.of("d2;r3 2 0;r3 3 0;r3 5 0;");
        int[] numbers = {30, 12, 7, 10, 0};
        int[] sets = {7, 3, 0, 5, 7};
        int[] all = {1, 0, 0, 0, 1};
        int[] any = {1, 1, 0, 1, 1};
        for (int i = 0; i < numbers.length; i++) {
            check.due("SET of " + numbers[i], x.lucky(numbers[i], 1), sets[i]);
            check.due("all, " + numbers[i], x.lucky(numbers[i], 0), all[i]);
        }
        check.due("how many by all", x.told(7), 4);
        x.mode(1);
        for (int i = 0; i < numbers.length; i++) {
            check.due("SET of " + numbers[i], x.lucky(numbers[i], 1), sets[i]);
            check.due("any, " + numbers[i], x.lucky(numbers[i], 0), any[i]);
        }
        check.due("how many by any", x.told(7), 74);
        check.due("no rules", Check.of("d2;").lucky(0, 0), 0);
        check.due("no rules, SET", Check.of("d2;m1;").lucky(0, 1), 0);
    }

    private static void luckyOutside() {
        check.part("promise 9, OUTSIDE");
        check.due("no tram", new LuckyTickets().lucky(0, 0), Check.OUTSIDE);
        int last = 9;
        for (int figures = 2; figures <= 4; figures++) {
            last = last * 10 + 9;
            LuckyTickets x = Check.of("d" + figures + ";r0 36 0;");
            check.due("LAST", x.lucky(last, 0), 1);
            check.due("LAST, SET", x.lucky(last, 1), 1);
            check.due("above LAST", x.lucky(last + 1, 0), Check.OUTSIDE);
            check.due("below 0", x.lucky(-1, 0), Check.OUTSIDE);
            check.due("what -1", x.lucky(0, -1), Check.OUTSIDE);
            check.due("what 2", x.lucky(0, 2), Check.OUTSIDE);
            check.due("how many", x.told(7), last + 1);
        }
    }
}
