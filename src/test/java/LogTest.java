/** Promises 19 (log), 20 (lost), 21 (move) and 22 (count). */
final class LogTest {
    private static final Due DUE = new Due("LogTest");
    private static final int ANYWHERE = 151504;

    public static void main(String[] args) {
        asksAreLogged();
        asksAreLost();
        latestAreLost();
        behalfIsLostByTheAsker();
        heapsMove();
        countsCount();
        DUE.end();
    }

    private static void row(AskTrust x, int i, int... due) {
        for (int what = 0; what < due.length; what++) {
            DUE.is("log " + i + " " + what, x.log(i, what), due[what]);
        }
    }

    private static void asksAreLogged() {
        AskTrust x = new AskTrust();
        x.rule(0, 12300, ANYWHERE, 0);
        x.roles(4, 1);
        x.thing(6, 2, 1);
        x.go(9);
        x.ask(4563);
        x.mark(4, 2, 3);
        x.go(2);
        x.behalf(4563, 7);
        x.ask(4563);
        x.behalf(7560, 4);
        x.judged(0, 4563);
        x.why(0, 4563);
        x.ask(4);
        x.roles(4, 0);
        x.thing(6, 0, 0);
        int code = 5120 + 60 + 11;
        row(x, 0, 9, 4563, code, 1, -1, -1, -1);
        row(x, 1, 11, 4563, code + 240, 2, 7, -1, -1);
        row(x, 2, 11, 4563, code + 240, 0, -1, -1, -1);
        row(x, 3, 11, 7560, 11, 2, 4, -1, -1);
        row(x, 4, -1, -1, -1, -1, -1);
        row(x, -1, -1, -1, -1, -1, -1);
        row(x, Integer.MAX_VALUE, -1, -1, -1, -1, -1);
        row(x, Integer.MIN_VALUE, -1, -1, -1, -1, -1);
        DUE.is("log 0 -1", x.log(0, -1), -1);
        DUE.is("log 0 least", x.log(0, Integer.MIN_VALUE), -1);
        DUE.is("log 0 most", x.log(0, Integer.MAX_VALUE), -1);
    }

    private static void asksAreLost() {
        AskTrust x = new AskTrust();
        x.roles(0, 1);
        x.roles(1, 2);
        x.rule(0, 13000, ANYWHERE, 0);
        x.rule(0, 22300, ANYWHERE, 0);
        x.rule(1, 22300, ANYWHERE, 0);
        DUE.is("LET", x.ask(0), 0);
        DUE.is("STEP UP", x.ask(1000), 1);
        DUE.is("SHUT", x.ask(2000), 2);
        DUE.is("one is LOST", x.lost(), 1);
        x.mark(1, 2, 3);
        DUE.is("LET", x.ask(1000), 0);
        DUE.is("that one is LET by both", x.lost(), 1);
        x.roles(0, 2);
        x.mark(0, 2, 3);
        x.roles(1, 0);
        x.go(100);
        DUE.is("FACTS are as they were then", x.lost(), 1);
        x.rule(1, 12300, ANYWHERE, 0);
        DUE.is("STEP UP by the other HEAP is LOST", x.lost(), 1);
        x.rule(1, 13000, ANYWHERE, 0);
        DUE.is("RULES are as they are now", x.lost(), 0);
    }

    private static void latestAreLost() {
        AskTrust x = new AskTrust();
        x.roles(1, 1);
        x.rule(0, 13000, ANYWHERE, 0);
        for (int i = 0; i < 39; i++) {
            x.ask(1000);
            DUE.is("lost", x.lost(), i + 1);
        }
        x.ask(2000);
        DUE.is("lost of 40", x.lost(), 39);
        x.ask(2000);
        DUE.is("those that were SHUT count among the 40", x.lost(), 38);
        for (int i = 0; i < 38; i++) {
            x.ask(2000);
        }
        DUE.is("all came before", x.lost(), 0);
        DUE.yes("move", x.move(false));
    }

    private static void behalfIsLostByTheAsker() {
        AskTrust x = new AskTrust();
        x.roles(0, 1);
        x.rule(0, 3000, ANYWHERE, 0);
        x.rule(1, 13000, ANYWHERE, 0);
        DUE.is("LET for both", x.behalf(0, 1), 0);
        DUE.is("it is logged as an ASK of 0", x.lost(), 0);
        DUE.is("LET for both", x.behalf(1000, 0), 0);
        DUE.is("it is logged as an ASK of 1", x.lost(), 1);
    }

    private static void heapsMove() {
        AskTrust x = new AskTrust();
        DUE.yes("nothing is LOST", x.move(false));
        DUE.is("HEAP 1", x.count(1), 1);
        x.rule(1, 3000, ANYWHERE, 0);
        DUE.is("ask", x.ask(0), 0);
        DUE.no("one is LOST", x.move(false));
        DUE.is("HEAP 1 yet", x.count(1), 1);
        DUE.yes("anyway", x.move(true));
        DUE.is("HEAP 0", x.count(1), 0);
        DUE.is("ask", x.ask(0), 2);
        DUE.is("the other HEAP is 1 now", x.lost(), 0);
        DUE.yes("and back", x.move(false));
        DUE.is("ask", x.ask(0), 0);
    }

    private static void countsCount() {
        AskTrust x = new AskTrust();
        x.go(3);
        x.rule(0, 13000, ANYWHERE, 0);
        x.rule(0, 3000, ANYWHERE, 2);
        x.rule(1, 3000, ANYWHERE, 0);
        x.roles(0, 1);
        x.ask(0);
        x.ask(1000);
        x.behalf(0, 1);
        x.ask(4);
        x.judged(0, 0);
        x.judged(0, 0);
        x.judged(1, 0);
        x.move(true);
        int[] due = {3, 1, 2, 1, 3, 1, 1};
        for (int what = 0; what < due.length; what++) {
            DUE.is("count " + what, x.count(what), due[what]);
        }
        for (int what : new int[] {-1, 7, Integer.MAX_VALUE, Integer.MIN_VALUE}) {
            DUE.is("count " + what, x.count(what), -1);
        }
    }
}
