import java.util.ArrayList;
import java.util.List;
import java.util.function.Supplier;
import java.util.function.ToIntFunction;

/** The boundary cases of "Terms" ahead of its sections: numbers, sets, REFUSALS, their order, and that they change nothing. */
final class BoundsOfTerms {
    private static final String HERE = "Terms";
    private static final int UNKNOWN = Check.UNKNOWN, OUTSIDE = Check.OUTSIDE, NOT = Check.NOT, FULL = Check.FULL;

    /** A call and the refusal that is due. */
    private record Refused(String name, ToIntFunction<LuckyTickets> call, int due) { }

    private final Sentences s;
    private final Check check;

    BoundsOfTerms(Sentences sentences) {
        s = sentences;
        check = s.check;
    }

    void test() {
        numbers();
        constants();
        order();
        nothingChanges();
    }

    private void numbers() {
        s.about(HERE, "All numbers are whole; / cuts towards 0.");
        check.due("D / 2 of 3", Check.of("d3;r0 0 0;").lucky(191, 0), 1);
        check.due("D / 2 of 3, the FIGURE in the middle", Check.of("d3;r0 8 0;").lucky(900, 0), 0);
        check.due("10 times 1 / 100", new LuckyTickets().dry(5, 1), 0);
        check.due("3913539 times 33 / 100", new LuckyTickets().dry(6, 33), 1291467);

        s.about(HERE, "What has a number has it from 0 on, as it comes.");
        LuckyTickets x = Check.of("d2;r3 2 1;r3 3 2;r3 4 3;r3 5 4;n6 1;n7 2;n8 3;n9 4;p3;p2;p1;p0;p3;");
        for (int i = 0; i <= 5; i++) {
            check.due("RULE " + i, x.ruleOf(i, 1), i < 4 ? i + 2 : UNKNOWN);
            check.due("ROLL " + i, x.rollOf(i, 0), i < 4 ? i + 6 : UNKNOWN);
            check.due("RIDER " + i, x.rider(i, 0), i == 5 ? UNKNOWN : i == 4 ? 3 : 3 - i);
        }
        check.due("RULE -1", x.ruleOf(-1, 1), UNKNOWN);
        check.due("ROLL -1", x.rollOf(-1, 0), UNKNOWN);
        check.due("RIDER -1", x.rider(-1, 0), UNKNOWN);
        x.write(1, true);
        check.due("the first entry", x.judge(), 0);

        s.about(HERE, "A SET is a whole number, bit k for k (of RULES, if nothing else is told).");
        LuckyTickets sets = Check.of("d3;m1;r3 2 0;r3 3 0;r3 5 0;r3 7 0;");
        check.due("none", sets.lucky(11, 1), 0);
        check.due("the first", sets.lucky(2, 1), 1);
        check.due("the last", sets.lucky(7, 1), 8);
        check.due("all four", sets.lucky(210, 1), 15);
        check.due("of one RULE", Check.of("d2;r0 36 0;").lucky(99, 1), 1);
        check.due("of no RULES", Check.of("d2;").lucky(99, 1), 0);
    }

    private void constants() {
        s.about(HERE, "NONE is -1.");
        check.due("NONE", LuckyTickets.NONE, -1);
        check.due("it is answered", Check.of("d2;").next(0), -1);

        s.about(HERE, "They are far below all that is counted: -1000000001 and on.");
        check.due("UNKNOWN", LuckyTickets.UNKNOWN, -1000000001);
        check.due("OUTSIDE", LuckyTickets.OUTSIDE, -1000000002);
        check.due("NOT", LuckyTickets.NOT, -1000000003);
        check.due("FULL", LuckyTickets.FULL, -1000000004);
        LuckyTickets x = new LuckyTickets();
        check.due("UNKNOWN is answered", x.ruleOf(0, 0), -1000000001);
        check.due("OUTSIDE is answered", x.told(15), -1000000002);
        check.due("NOT is answered", x.undo(), -1000000003);
        check.due("FULL is answered", fullText().feed(' '), -1000000004);

        s.about(HERE, "BILLION is 1000000000.");
        check.due("no day", x.dry(0, 0), 1000000000);
    }

    private static LuckyTickets fullText() {
        LuckyTickets x = new LuckyTickets();
        Check.feed(x, " ".repeat(240));
        return x;
    }

    /** Two RULES, ROLLS (the second has none left), RIDERS (the second has no LUCKY one); all is full, IMAGE 0 is kept. */
    private static LuckyTickets fullTram() {
        LuckyTickets x = Check.of("d2;r3 2 0;r3 3 0;n0 99;n9 0;p0;p1;");
        x.seed(77);
        x.keep(0);
        x.drift(7);
        x.roll(1, 9, 0);
        x.roll(0, 0, 60);
        x.sell(0, 0);
        for (int i = 0; i < 8; i++) {
            x.see(i, i % 2 == 0);
        }
        for (int i = 0; i < 15; i++) {
            x.write(i, i % 6 == 0);
        }
        Check.feed(x, "d3;p");
        return x;
    }

    private static LuckyTickets noRiders() {
        return Check.of("d2;r3 2 0;n0 99;");
    }

    private static LuckyTickets noMoreDays() {
        LuckyTickets x = Check.of("d2;");
        for (int i = 0; i < 150; i++) {
            x.drift(60);
        }
        x.drift(1);
        return x;
    }

    private void refuses(Supplier<LuckyTickets> made, List<Refused> calls) {
        for (Refused r : calls) {
            check.due(r.name(), r.call().applyAsInt(made.get()), r.due());
        }
    }

    private void order() {
        s.about(HERE, "REFUSALS, of several the first in this order: UNKNOWN");
        refuses(BoundsOfTerms::fullTram, List.of(
            new Refused("ruleOf(2, 4), OUTSIDE too", x -> x.ruleOf(2, 4), UNKNOWN),
            new Refused("ruleOf(-1, -1), OUTSIDE too", x -> x.ruleOf(-1, -1), UNKNOWN),
            new Refused("rollOf(2, 6), OUTSIDE too", x -> x.rollOf(2, 6), UNKNOWN),
            new Refused("rollOf(-1, -1), OUTSIDE too", x -> x.rollOf(-1, -1), UNKNOWN),
            new Refused("rider(2, 5), OUTSIDE too", x -> x.rider(2, 5), UNKNOWN),
            new Refused("rider(-1, -1), OUTSIDE too", x -> x.rider(-1, -1), UNKNOWN),
            new Refused("sell(1, 2), NOT too", x -> x.sell(1, 2), UNKNOWN),
            new Refused("sell(1, -1), NOT too", x -> x.sell(1, -1), UNKNOWN),
            new Refused("line(2, 0), OUTSIDE too", x -> x.line(2, 0), UNKNOWN),
            new Refused("line(-1, 61), OUTSIDE too", x -> x.line(-1, 61), UNKNOWN),
            new Refused("line(1, 61), NOT too", x -> x.line(1, 61), OUTSIDE),
            new Refused("give(1, 2), NOT too", x -> x.give(1, 2), UNKNOWN),
            new Refused("give(1, -1), NOT too", x -> x.give(1, -1), UNKNOWN),
            new Refused("rule(2, 5, 0, 0), OUTSIDE too", x -> x.rule(2, 5, 0, 0), UNKNOWN),
            new Refused("rule(-1, 0, 37, 0), OUTSIDE too", x -> x.rule(-1, 0, 37, 0), UNKNOWN),
            new Refused("roll(2, 100, 0), OUTSIDE too", x -> x.roll(2, 100, 0), UNKNOWN),
            new Refused("roll(-1, 0, 201), OUTSIDE too", x -> x.roll(-1, 0, 201), UNKNOWN),
            new Refused("see(100, true), FULL too", x -> x.see(100, true), OUTSIDE),
            new Refused("see(-1, false), FULL too", x -> x.see(-1, false), OUTSIDE),
            new Refused("write(100, true), FULL too", x -> x.write(100, true), OUTSIDE),
            new Refused("write(-1, false), FULL too", x -> x.write(-1, false), OUTSIDE),
            new Refused("goBack(2), NOT too", x -> x.goBack(2), UNKNOWN),
            new Refused("goBack(-1), NOT too", x -> x.goBack(-1), UNKNOWN)));
        refuses(BoundsOfTerms::noRiders, List.of(
            new Refused("line(1, 1), no RIDERS too", x -> x.line(1, 1), UNKNOWN),
            new Refused("line(1, 61), OUTSIDE, no RIDERS too", x -> x.line(1, 61), UNKNOWN),
            new Refused("line(0, 0), no RIDERS too", x -> x.line(0, 0), OUTSIDE),
            new Refused("line(0, 61), no RIDERS too", x -> x.line(0, 61), OUTSIDE)));
        refuses(LuckyTickets::new, List.of(
            new Refused("mode(2), no TRAM too", x -> x.mode(2), OUTSIDE),
            new Refused("mode(-1), no TRAM too", x -> x.mode(-1), OUTSIDE),
            new Refused("drift(0), no TRAM too", x -> x.drift(0), OUTSIDE),
            new Refused("drift(61), no TRAM too", x -> x.drift(61), OUTSIDE)));
        refuses(BoundsOfTerms::noMoreDays, List.of(
            new Refused("drift(0), FULL too", x -> x.drift(0), OUTSIDE),
            new Refused("drift(61), FULL too", x -> x.drift(61), OUTSIDE)));
        refuses(BoundsOfTerms::fullText, List.of(
            new Refused("feed(-1), FULL too", x -> x.feed(-1), OUTSIDE),
            new Refused("feed(256), FULL too", x -> x.feed(256), OUTSIDE)));

        s.about(HERE, "(a RULE, ROLL, RIDER, IMAGE that there is not; one twice, where two are asked)");
        refuses(BoundsOfTerms::fullTram, unknownOnes());
        refuses(BoundsOfTerms::fullTram, List.of(
            new Refused("give(0, 0), who has one", x -> x.give(0, 0), UNKNOWN),
            new Refused("give(1, 1), NOT too", x -> x.give(1, 1), UNKNOWN)));

        s.about(HERE, "OUTSIDE (another number out of its bounds), NOT (not now, as told), FULL.");
        refuses(BoundsOfTerms::fullTram, outsideOnes());
        refuses(BoundsOfTerms::fullTram, notNow());
        refuses(LuckyTickets::new, withoutTram());
    }

    private static List<Refused> unknownOnes() {
        List<Refused> all = new ArrayList<>();
        for (int i : new int[] {-1, 2, Integer.MIN_VALUE, Integer.MAX_VALUE}) {
            all.add(new Refused("ruleOf(" + i + ", 0)", x -> x.ruleOf(i, 0), UNKNOWN));
            all.add(new Refused("rollOf(" + i + ", 0)", x -> x.rollOf(i, 0), UNKNOWN));
            all.add(new Refused("rider(" + i + ", 0)", x -> x.rider(i, 0), UNKNOWN));
            all.add(new Refused("sell(" + i + ", 0)", x -> x.sell(i, 0), UNKNOWN));
            all.add(new Refused("sell(0, " + i + ")", x -> x.sell(0, i), UNKNOWN));
            all.add(new Refused("line(" + i + ", 1)", x -> x.line(i, 1), UNKNOWN));
            all.add(new Refused("give(" + i + ", 0)", x -> x.give(i, 0), UNKNOWN));
            all.add(new Refused("give(0, " + i + ")", x -> x.give(0, i), UNKNOWN));
            all.add(new Refused("give(" + i + ", " + i + ")", x -> x.give(i, i), UNKNOWN));
            all.add(new Refused("rule(" + i + ", 0, 0, 0)", x -> x.rule(i, 0, 0, 0), UNKNOWN));
            all.add(new Refused("roll(" + i + ", 0, 0)", x -> x.roll(i, 0, 0), UNKNOWN));
            all.add(new Refused("keep(" + i + ")", x -> x.keep(i), UNKNOWN));
            all.add(new Refused("goBack(" + i + ")", x -> x.goBack(i), UNKNOWN));
        }
        return all;
    }

    /** A number that is out of any bounds, and the first one on that side that is. */
    private static List<Refused> outsideOnes() {
        List<Refused> all = new ArrayList<>();
        for (int low : new int[] {-1, Integer.MIN_VALUE}) {
            addOutside(all, low, low, low, low);
            all.add(new Refused("kth(" + low + ")", x -> x.kth(low), OUTSIDE));
            all.add(new Refused("seed(" + low + ")", x -> x.seed(low), OUTSIDE));
        }
        addOutside(all, 256, 100, 61, 201);
        int high = Integer.MAX_VALUE;
        addOutside(all, high, high, high, high);
        for (int n : new int[] {0, 61}) {
            all.add(new Refused("line(0, " + n + ")", x -> x.line(0, n), OUTSIDE));
            all.add(new Refused("drift(" + n + ")", x -> x.drift(n), OUTSIDE));
        }
        addWhats(all, -1, -1, -1, -1, -1, -1, -1);
        addWhats(all, 15, 4, 6, 5, 2, 3, 101);
        int[][] rules = {{5, 0, 0}, {0, 37, 0}, {0, 0, 1}, {1, 3, 0}, {2, 10, 0}, {2, 0, 5}, {3, 1, 0}, {3, 12, 12}, {4, 4, 0}};
        for (int[] rule : rules) {
            String name = "rule(0, " + rule[0] + ", " + rule[1] + ", " + rule[2] + ")";
            all.add(new Refused(name, x -> x.rule(0, rule[0], rule[1], rule[2]), OUTSIDE));
        }
        return all;
    }

    private static void addOutside(List<Refused> all, int letter, int number, int days, int left) {
        all.add(new Refused("feed(" + letter + ")", x -> x.feed(letter), OUTSIDE));
        all.add(new Refused("lucky(" + number + ", 0)", x -> x.lucky(number, 0), OUTSIDE));
        all.add(new Refused("next(" + number + ")", x -> x.next(number), OUTSIDE));
        all.add(new Refused("upTo(" + number + ", 0)", x -> x.upTo(number, 0), OUTSIDE));
        all.add(new Refused("upTo(0, " + number + ")", x -> x.upTo(0, number), OUTSIDE));
        all.add(new Refused("see(" + number + ", true)", x -> x.see(number, true), OUTSIDE));
        all.add(new Refused("write(" + number + ", true)", x -> x.write(number, true), OUTSIDE));
        all.add(new Refused("roll(0, " + number + ", 0)", x -> x.roll(0, number, 0), OUTSIDE));
        all.add(new Refused("roll(0, 0, " + left + ")", x -> x.roll(0, 0, left), OUTSIDE));
        all.add(new Refused("line(0, " + days + ")", x -> x.line(0, days), OUTSIDE));
        all.add(new Refused("drift(" + days + ")", x -> x.drift(days), OUTSIDE));
        all.add(new Refused("dry(" + days + ", 0)", x -> x.dry(days, 0), OUTSIDE));
        all.add(new Refused("dry(0, " + letter + ")", x -> x.dry(0, letter), OUTSIDE));
        all.add(new Refused("mode(" + letter + ")", x -> x.mode(letter), OUTSIDE));
    }

    /** What is asked of, and the others that have few values: told, ruleOf, rollOf, rider, lucky and its like, could, q. */
    private static void addWhats(List<Refused> all, int... what) {
        all.add(new Refused("told(" + what[0] + ")", x -> x.told(what[0]), OUTSIDE));
        all.add(new Refused("ruleOf(0, " + what[1] + ")", x -> x.ruleOf(0, what[1]), OUTSIDE));
        all.add(new Refused("rollOf(0, " + what[2] + ")", x -> x.rollOf(0, what[2]), OUTSIDE));
        all.add(new Refused("rider(0, " + what[3] + ")", x -> x.rider(0, what[3]), OUTSIDE));
        all.add(new Refused("lucky(0, " + what[4] + ")", x -> x.lucky(0, what[4]), OUTSIDE));
        all.add(new Refused("mode(" + what[4] + ")", x -> x.mode(what[4]), OUTSIDE));
        all.add(new Refused("waits(" + what[4] + ")", x -> x.waits(what[4]), OUTSIDE));
        all.add(new Refused("could(0, " + what[5] + ")", x -> x.could(0, what[5]), OUTSIDE));
        all.add(new Refused("dry(0, " + what[6] + ")", x -> x.dry(0, what[6]), OUTSIDE));
    }

    private static List<Refused> notNow() {
        return List.of(
            new Refused("sell(1, 0), none is left", x -> x.sell(1, 0), NOT),
            new Refused("line(1, 1), none is left", x -> x.line(1, 1), NOT),
            new Refused("line(0, 60), 59 are left", x -> x.line(0, 60), NOT),
            new Refused("give(1, 0), it has none", x -> x.give(1, 0), NOT),
            new Refused("mode(0), it is so", x -> x.mode(0), NOT),
            new Refused("goBack(1), it was not kept", x -> x.goBack(1), NOT),
            new Refused("see(0, true), a ninth", x -> x.see(0, true), FULL),
            new Refused("write(0, true), a sixteenth", x -> x.write(0, true), FULL));
    }

    private static List<Refused> withoutTram() {
        return List.of(
            new Refused("ruleOf(0, 0)", x -> x.ruleOf(0, 0), UNKNOWN),
            new Refused("rollOf(0, 0)", x -> x.rollOf(0, 0), UNKNOWN),
            new Refused("rider(0, 0)", x -> x.rider(0, 0), UNKNOWN),
            new Refused("lucky(0, 0)", x -> x.lucky(0, 0), OUTSIDE),
            new Refused("sell(0, 0)", x -> x.sell(0, 0), UNKNOWN),
            new Refused("line(0, 1)", x -> x.line(0, 1), UNKNOWN),
            new Refused("give(0, 1)", x -> x.give(0, 1), UNKNOWN),
            new Refused("rule(0, 0, 0, 0)", x -> x.rule(0, 0, 0, 0), UNKNOWN),
            new Refused("mode(0)", x -> x.mode(0), NOT),
            new Refused("mode(1)", x -> x.mode(1), NOT),
            new Refused("roll(0, 0, 0)", x -> x.roll(0, 0, 0), UNKNOWN),
            new Refused("drift(1)", x -> x.drift(1), NOT),
            new Refused("undo()", x -> x.undo(), NOT),
            new Refused("next(0)", x -> x.next(0), OUTSIDE),
            new Refused("upTo(0, 0)", x -> x.upTo(0, 0), OUTSIDE),
            new Refused("see(0, true)", x -> x.see(0, true), OUTSIDE),
            new Refused("write(0, true)", x -> x.write(0, true), OUTSIDE),
            new Refused("goBack(0)", x -> x.goBack(0), NOT));
    }

    private void nothingChanges() {
        s.about(HERE, "What is refused changes nothing.");
        List<Refused> withTram = new ArrayList<>(unknownOnes());
        withTram.addAll(outsideOnes());
        withTram.addAll(notNow());
        withTram.add(new Refused("give(0, 0)", x -> x.give(0, 0), UNKNOWN));
        changesNothing(BoundsOfTerms::fullTram, withTram);
        changesNothing(LuckyTickets::new, withoutTram());
        changesNothing(BoundsOfTerms::noRiders, List.of(new Refused("line(0, 1)", x -> x.line(0, 1), NOT)));
        changesNothing(BoundsOfTerms::noMoreDays, List.of(new Refused("drift(1)", x -> x.drift(1), FULL)));
        LuckyTickets text = fullText();
        check.due("a letter more", text.feed('x'), FULL);
        check.due("it is still a text of 240 blanks", text.told(5), 240);
        check.due("it is still a text of 240 blanks", text.tram(), 0);
    }

    private void changesNothing(Supplier<LuckyTickets> made, List<Refused> calls) {
        String want = shown(made.get());
        for (Refused r : calls) {
            LuckyTickets x = made.get();
            check.due(r.name(), r.call().applyAsInt(x), r.due());
            check.holds(r.name() + " changes nothing", shown(x).equals(want));
        }
    }

    /** All that an object shows, what can be undone, its images and its text last, as these are used up by it. */
    private static String shown(LuckyTickets x) {
        StringBuilder all = new StringBuilder(now(x));
        all.append(" fault ").append(x.fault()).append(" judge ").append(x.judge()).append(" seen");
        for (int what = 5; what <= 14; what++) {
            all.append(' ').append(x.told(what));
        }
        for (int i = 0; i < 5; i++) {
            all.append(' ').append(x.could(i, 0)).append(' ').append(x.could(i, 1)).append(' ').append(x.could(i, 2));
        }
        for (int i = 0; i < 17; i++) {
            all.append(" undo ").append(x.undo()).append(' ').append(x.rollOf(0, 0)).append(' ').append(x.told(6));
        }
        for (int i = 0; i <= 1; i++) {
            all.append(" image ").append(x.goBack(i)).append(' ').append(now(x));
        }
        return all.append(" text ").append(x.tram()).append(' ').append(x.fault()).toString();
    }

    /** All of section 2, and THE SEED. */
    private static String now(LuckyTickets x) {
        StringBuilder all = new StringBuilder("tram");
        for (int what = 0; what <= 7; what++) {
            all.append(' ').append(x.told(what));
        }
        for (int i = 0; i <= 2; i++) {
            for (int what = 0; what <= 4; what++) {
                all.append(' ').append(what < 3 ? x.ruleOf(i, what) : 0).append(' ').append(what < 2 ? x.rollOf(i, what) : 0);
                all.append(' ').append(x.rider(i, what));
            }
        }
        int seed = x.seed(0);
        x.seed(Math.max(0, seed));
        return all.append(" seed ").append(seed).toString();
    }
}
