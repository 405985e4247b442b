import java.util.Random;

/** All promises: long runs of mixed calls, right and wrong ones, against the plain model. */
final class ModelTest {
    private static final Due DUE = new Due("ModelTest");
    private static final int RUNS = 300;
    private static final int CALLS = 512;
    private static final int NO_DICE = -1;
    private static final int DICE_GO = 0;
    private static final int DICE_RULE = 28;
    private static final int DICE_ASK = 40;
    private static final int DICE_JUDGED = 70;
    private static final int[] FAVOURITES = {NO_DICE, DICE_GO, DICE_RULE, DICE_ASK, NO_DICE, DICE_JUDGED};

    private final Random random;
    private final AskTrust x = new AskTrust();
    private final PlainModel m = new PlainModel();
    /** Runs with few persons and things meet the same ASK more often. */
    private final int crowd;
    private final int proofs;
    /** A dice that comes up more often in this run, so that some runs fill the log or the HEAPS, or go to the last TICK. */
    private final int favourite;
    private String call = "";

    private ModelTest(int seed) {
        random = new Random(seed);
        crowd = 1 + random.nextInt(10);
        proofs = random.nextInt(4);
        favourite = FAVOURITES[seed % FAVOURITES.length];
    }

    public static void main(String[] args) {
        boolean sawLastTick = false;
        boolean sawFullHeap = false;
        boolean sawFullLog = false;
        for (int run = 0; run < RUNS && !DUE.isWrong(); run++) {
            ModelTest test = new ModelTest(run);
            for (int i = 0; i < CALLS && !DUE.isWrong(); i++) {
                test.step("run " + run + " call " + i + " ");
            }
            sawLastTick |= test.m.count(0) == 5000;
            sawFullHeap |= test.m.count(2) == 12;
            sawFullLog |= test.m.count(4) == 300;
        }
        DUE.yes("some run went to the last TICK", sawLastTick);
        DUE.yes("some run filled a HEAP", sawFullHeap);
        DUE.yes("some run filled the log", sawFullLog);
        DUE.end();
    }

    /** A number of 0 .. most, and seldom one that isn't. */
    private int upTo(int most) {
        int dice = random.nextInt(60);
        if (dice == 0) {
            return -1 - random.nextInt(3);
        }
        if (dice == 1) {
            return most + 1 + random.nextInt(3);
        }
        return dice == 2 ? random.nextInt() : random.nextInt(most + 1);
    }

    private int few() {
        return random.nextInt(30) == 0 ? upTo(9) : random.nextInt(crowd);
    }

    private int who() {
        return few() * 1000 + few() * 100 + few() * 10 + upTo(3);
    }

    private int what() {
        int roles = random.nextBoolean() ? 0 : upTo(15) & upTo(15);
        int sure = random.nextInt(3) == 0 ? random.nextInt(25) : 0;
        return roles * 10000 + upTo(3) * 1000 + upTo(3) * 100 + sure;
    }

    private int where() {
        int places = random.nextBoolean() ? 15 : upTo(15);
        int kinds = random.nextBoolean() ? 15 : upTo(15);
        return places * 10000 + kinds * 100 + random.nextInt(3) * 10 + 4 - random.nextInt(3);
    }

    private static int num(boolean b) {
        return b ? 1 : 0;
    }

    private void same(String name, int got, int want) {
        DUE.is(call + name, got, want);
    }

    private void step(String where) {
        call = where;
        boolean isFavoured = favourite != NO_DICE && random.nextInt(5) < 3;
        int dice = isFavoured ? favourite : random.nextInt(100);
        if (dice < 35) {
            change(dice);
        } else if (dice < 65) {
            asks(dice);
        } else if (dice < 85) {
            judges(dice);
        } else if (dice < 85 + proofs) {
            proves();
        } else {
            looks();
        }
    }

    private void change(int dice) {
        int a = few();
        if (dice < 9) {
            int n = random.nextInt(4) == 0 || favourite == DICE_GO ? upTo(200) : upTo(6);
            same("go " + n, x.go(n), m.go(n));
        } else if (dice < 13) {
            int roles = upTo(15);
            same("roles", num(x.roles(a, roles)), num(m.roles(a, roles)));
        } else if (dice < 20) {
            int sort = upTo(2);
            int value = upTo(3);
            same("mark", num(x.mark(a, sort, value)), num(m.mark(a, sort, value)));
        } else if (dice < 23) {
            int kind = upTo(3);
            int worth = upTo(4);
            same("thing", num(x.thing(a, kind, worth)), num(m.thing(a, kind, worth)));
        } else if (dice < 25) {
            int sort = upTo(2);
            int limit = random.nextBoolean() ? upTo(500) : upTo(10);
            int weight = upTo(9);
            same("sort", num(x.sort(sort, limit, weight)), num(m.sort(sort, limit, weight)));
        } else if (dice < 29) {
            int heap = upTo(1);
            int what = what();
            int where = where();
            int says = random.nextInt(20) == 0 ? upTo(2) : random.nextInt(3) == 0 ? 2 : 0;
            same("rule " + what + " " + where, x.rule(heap, what, where, says), m.rule(heap, what, where, says));
        } else if (dice < 31) {
            int heap = upTo(1);
            int rule = upTo(4);
            same("unrule", num(x.unrule(heap, rule)), num(m.unrule(heap, rule)));
        } else {
            boolean anyway = random.nextInt(6) == 0;
            same("move", num(x.move(anyway)), num(m.move(anyway)));
        }
    }

    private void asks(int dice) {
        int who = who();
        if (dice < 48) {
            same("ask " + who, x.ask(who), m.ask(who));
        } else if (dice < 55) {
            int person = random.nextBoolean() ? few() : upTo(9);
            same("behalf " + who + " " + person, x.behalf(who, person), m.behalf(who, person));
        } else if (dice < 60) {
            int heap = upTo(1);
            same("why " + who, x.why(heap, who), m.why(heap, who));
        } else {
            same("facts " + who, x.facts(who), m.facts(who));
        }
    }

    private void judges(int dice) {
        int judge = upTo(3);
        if (dice < 67) {
            int span = upTo(50);
            int way = upTo(20);
            same("judge", num(x.judge(judge, span, way)), num(m.judge(judge, span, way)));
        } else if (dice < 80) {
            int who = who();
            same("judged " + judge + " " + who, x.judged(judge, who), m.judged(judge, who));
        } else {
            same("keeps " + judge, x.keeps(judge), m.keeps(judge));
        }
    }

    private void proves() {
        int heap = upTo(1);
        int a = random.nextInt(Math.max(1, m.count(2 + (heap & 1))) + 1);
        int b = random.nextInt(Math.max(1, m.count(2 + (heap & 1))) + 1);
        switch (random.nextInt(3)) {
            case 0: {
                int law = upTo(3) * 10000 + upTo(4) * 1000 + upTo(4) * 100 + upTo(3) * 10 + upTo(3);
                same("law " + law, x.law(heap, law), m.law(heap, law));
                break;
            }
            case 1:
                same("idle " + a, num(x.idle(heap, a)), num(m.idle(heap, a)));
                break;
            default:
                same("quarrel " + a + " " + b, x.quarrel(heap, a, b), m.quarrel(heap, a, b));
                break;
        }
    }

    private void looks() {
        switch (random.nextInt(3)) {
            case 0: {
                int i = upTo(m.count(4));
                int what = upTo(4);
                same("log " + i + " " + what, x.log(i, what), m.log(i, what));
                break;
            }
            case 1:
                same("lost", x.lost(), m.lost());
                break;
            default: {
                int what = upTo(6);
                same("count " + what, x.count(what), m.count(what));
                break;
            }
        }
    }
}
