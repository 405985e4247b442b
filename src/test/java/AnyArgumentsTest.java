/** No call throws, whatever its arguments are and however many came before. */
final class AnyArgumentsTest {
    private static final Due DUE = new Due("AnyArgumentsTest");
    private static final int[] EDGES = {Integer.MIN_VALUE, Integer.MIN_VALUE + 1, -10000, -11, -2, -1, 0, 1, 2, 3, 4, 9,
        10, 11, 12, 15, 16, 31, 32, 39, 50, 63, 64, 99, 200, 201, 300, 500, 501, 3000, 5000, 9993, 9999, 10000, 39999,
        151504, 159999, 160000, Integer.MAX_VALUE - 1, Integer.MAX_VALUE};

    public static void main(String[] args) {
        AskTrust x = new AskTrust();
        for (int a : EDGES) {
            one(x, a);
            for (int b : EDGES) {
                two(x, a, b);
                for (int c : EDGES) {
                    three(x, a, b, c);
                }
            }
        }
        fillRules(x);
        for (int a : EDGES) {
            one(x, a);
            for (int b : EDGES) {
                two(x, a, b);
            }
        }
        // What they answer is free after the 512th, but each must come back.
        DUE.yes("all calls came back", true);
        DUE.end();
    }

    private static void one(AskTrust x, int a) {
        x.go(a);
        x.ask(a);
        x.facts(a);
        x.keeps(a);
        x.count(a);
        x.lost();
        x.move(a > 0);
    }

    private static void two(AskTrust x, int a, int b) {
        x.roles(a, b);
        x.behalf(a, b);
        x.why(a, b);
        x.judged(a, b);
        x.law(a, b);
        x.idle(a, b);
        x.log(a, b);
        x.unrule(a, b);
    }

    private static void three(AskTrust x, int a, int b, int c) {
        x.mark(a, b, c);
        x.thing(a, b, c);
        x.sort(a, b, c);
        x.judge(a, b, c);
        x.quarrel(a, b, c);
        x.rule(a, b, c, 0);
        x.rule(a & 1, b, c, a);
    }

    private static void fillRules(AskTrust x) {
        for (int i = 0; i < 13; i++) {
            x.rule(0, 3000 + i, 151504, i % 2 * 2);
            x.rule(1, i * 10000 + 3000, 151504, 0);
        }
        for (int who = 0; who < 10000; who++) {
            x.judged(who % 4, who);
        }
    }
}
