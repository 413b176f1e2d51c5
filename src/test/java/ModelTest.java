import java.util.Random;

/** Runs of drawn calls, the answers of which must be those of the model, for any arguments in any state. */
public final class ModelTest {
    private static final int RUNS = 400, TEXTS = 60000, CALLS = 512;
    private static final Check check = new Check();
    private static final int[] EDGES = {-1, 0, 1, 2, 3, 4, 5, 9, 10, 59, 60, 61, 99, 100, 101, 199, 200, 201, 999, 1000,
        9999, 10000, 171, -2, 240, 255, 256, Integer.MAX_VALUE, Integer.MIN_VALUE, -1000000001};

    private final Random random;
    private final LuckyTickets x = new LuckyTickets();
    private final Model m = new Model();
    private int calls;
    private int last = 99;

    private ModelTest(long seed) {
        random = new Random(seed);
    }

    public static void main(String[] args) {
        for (int run = 0; run < RUNS; run++) {
            check.part("run " + run);
            new ModelTest(run).run();
        }
        for (int run = 0; run < TEXTS; run++) {
            check.part("text " + run);
            new ModelTest(1000000 + run).brokenText();
        }
        check.end();
    }

    private void run() {
        if (random.nextInt(10) > 0) {
            feedAndTake(goodText());
        }
        while (calls < CALLS) {
            call();
        }
    }

    private void brokenText() {
        StringBuilder text = new StringBuilder(goodText());
        int changes = random.nextInt(4);
        for (int i = 0; i < changes && text.length() > 0; i++) {
            String letters = "dmrnp;0123456789 7 9xD\t:/";
            int at = random.nextInt(text.length());
            char letter = letters.charAt(random.nextInt(letters.length()));
            switch (random.nextInt(5)) {
                case 0: text.deleteCharAt(at); break;
                case 1: text.setCharAt(at, letter); break;
                case 2: text.insert(at, letter); break;
                case 3: text.setLength(at); break;
                default: text.insert(at, text.substring(0, Math.min(12, text.length()))); break;
            }
        }
        if (text.length() > 240) {
            text.setLength(240);
        }
        check.part("text '" + text + "'");
        feedAndTake(text.toString());
        for (int what = 0; what < 5; what++) {
            same("told(" + what + ")", x.told(what), m.told(what));
        }
    }

    private void same(String call, int got, int want) {
        check.due(call + " as call " + calls, got, want);
        calls++;
    }

    private void feedAndTake(String text) {
        for (int i = 0; i < text.length(); i++) {
            same("feed", x.feed(text.charAt(i)), m.feed(text.charAt(i)));
        }
        same("tram of " + text, x.tram(), m.tram());
        same("fault of " + text, x.fault(), m.fault());
        int figures = m.told(0);
        last = figures == 4 && random.nextInt(8) > 0 ? 9999 : figures == 3 ? 999 : 99;
    }

    private String gap() {
        return random.nextInt(6) == 0 ? " " : "";
    }

    private String goodText() {
        int figures = 2 + (random.nextInt(10) == 0 ? 2 : random.nextInt(2));
        StringBuilder text = new StringBuilder(gap() + "d" + gap() + figures + ";");
        int most = (int) Math.pow(10, figures);
        int clauses = random.nextInt(14);
        int[] room = {1, 4, 4, 5};
        for (int i = 0; i < clauses; i++) {
            int which = random.nextInt(4);
            if (room[which] == 0 && random.nextInt(30) > 0) {
                continue;
            }
            room[which]--;
            String clause;
            if (which == 0) {
                clause = "m" + gap() + random.nextInt(2);
            } else if (which == 1) {
                int[] rule = someRule();
                clause = "r" + gap() + rule[0] + " " + rule[1] + " " + gap() + rule[2];
            } else if (which == 2) {
                clause = "n" + gap() + random.nextInt(most) + " " + (random.nextInt(3) == 0 ? random.nextInt(5) : random.nextInt(201));
            } else {
                clause = "p" + gap() + random.nextInt(4);
            }
            text.append(clause).append(gap()).append(";").append(gap());
        }
        return text.toString();
    }

    private int[] someRule() {
        for (int i = 0; i < 100000; i++) {
            int[] rule = {random.nextInt(5), random.nextInt(random.nextInt(37) + 1), random.nextInt(random.nextInt(12) + 1)};
            if (Model.isRule(rule[0], rule[1], rule[2])) {
                return rule;
            }
        }
        return new int[] {0, 0, 0};
    }

    private int edge() {
        return EDGES[random.nextInt(EDGES.length)];
    }

    /** Mostly a number from 0 to the one ahead of n, at times one of the edges. */
    private int upTo(int n) {
        return random.nextInt(12) == 0 ? edge() : random.nextInt(n);
    }

    private void call() {
        int a = 0;
        int b = 0;
        int c = 0;
        int d = 0;
        boolean is = random.nextBoolean();
        switch (random.nextInt(34)) {
            case 0:
                a = random.nextInt(3) == 0 ? edge() : random.nextInt(256);
                if (random.nextInt(3) == 0) {
                    same("feed(" + a + ")", x.feed(a), m.feed(a));
                }
                break;
            case 1:
                if (random.nextInt(20) == 0 && calls < 400) {
                    feedAndTake(random.nextInt(4) == 0 ? " ".repeat(random.nextInt(2)) : goodText());
                } else if (random.nextInt(60) == 0) {
                    same("tram", x.tram(), m.tram());
                }
                break;
            case 2: same("fault", x.fault(), m.fault()); break;
            case 3: a = upTo(15); same("told(" + a + ")", x.told(a), m.told(a)); break;
            case 4: a = upTo(4); b = upTo(4); same("ruleOf(" + a + ", " + b + ")", x.ruleOf(a, b), m.ruleOf(a, b)); break;
            case 5: a = upTo(4); b = upTo(6); same("rollOf(" + a + ", " + b + ")", x.rollOf(a, b), m.rollOf(a, b)); break;
            case 6: a = upTo(5); b = upTo(5); same("rider(" + a + ", " + b + ")", x.rider(a, b), m.rider(a, b)); break;
            case 7: a = upTo(last + 1); b = upTo(2); same("lucky(" + a + ", " + b + ")", x.lucky(a, b), m.lucky(a, b)); break;
            case 8: case 9: a = upTo(4); b = upTo(5); same("sell(" + a + ", " + b + ")", x.sell(a, b), m.sell(a, b)); break;
            case 10: case 11: a = upTo(4); b = upTo(61); same("line(" + a + ", " + b + ")", x.line(a, b), m.line(a, b)); break;
            case 12: case 13: a = upTo(5); b = upTo(5); same("give(" + a + ", " + b + ")", x.give(a, b), m.give(a, b)); break;
            case 14: ruleCall(); break;
            case 15: a = upTo(2); same("mode(" + a + ")", x.mode(a), m.mode(a)); break;
            case 16:
                a = upTo(4); b = upTo(last + 1); c = upTo(201);
                same("roll(" + a + ", " + b + ", " + c + ")", x.roll(a, b, c), m.roll(a, b, c));
                break;
            case 17: a = upTo(61); same("drift(" + a + ")", x.drift(a), m.drift(a)); break;
            case 18: case 19: same("undo", x.undo(), m.undo()); break;
            case 20: a = upTo(last + 1); same("next(" + a + ")", x.next(a), m.next(a)); break;
            case 21: a = upTo(last + 1); b = upTo(last + 1); same("upTo(" + a + ", " + b + ")", x.upTo(a, b), m.upTo(a, b)); break;
            case 22: a = upTo(last + 1); same("kth(" + a + ")", x.kth(a), m.kth(a)); break;
            case 23: a = upTo(2); same("waits(" + a + ")", x.waits(a), m.waits(a)); break;
            case 24: a = upTo(61); b = upTo(101); same("dry(" + a + ", " + b + ")", x.dry(a, b), m.dry(a, b)); break;
            case 25: a = upTo(last + 1); same("see(" + a + ", " + is + ")", x.see(a, is), m.see(a, is)); break;
            case 26: a = upTo(171); b = upTo(3); same("could(" + a + ", " + b + ")", x.could(a, b), m.could(a, b)); break;
            case 27: a = upTo(12); b = upTo(3); same("could(" + a + ", " + b + ")", x.could(a, b), m.could(a, b)); break;
            case 28: a = upTo(last + 1); same("write(" + a + ", " + is + ")", x.write(a, is), m.write(a, is)); break;
            case 29: if (random.nextInt(5) == 0) { same("tear", x.tear(), m.tear()); } break;
            case 30: same("judge", x.judge(), m.judge()); break;
            case 31: a = random.nextInt(); same("seed(" + a + ")", x.seed(a), m.seed(a)); break;
            case 32: if (random.nextInt(4) == 0) { a = upTo(2); same("keep(" + a + ")", x.keep(a), m.keep(a)); } break;
            default: if (random.nextInt(4) == 0) { a = upTo(2); same("goBack(" + a + ")", x.goBack(a), m.goBack(a)); } break;
        }
    }

    private void ruleCall() {
        int[] rule = random.nextInt(8) == 0 ? new int[] {upTo(5), upTo(100), upTo(100)} : someRule();
        int r = upTo(4);
        same("rule(" + r + ", " + rule[0] + ", " + rule[1] + ", " + rule[2] + ")",
            x.rule(r, rule[0], rule[1], rule[2]), m.rule(r, rule[0], rule[1], rule[2]));
    }
}
