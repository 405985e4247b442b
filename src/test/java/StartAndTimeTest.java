/** Promises 1 (a new object) and 2 (go). */
final class StartAndTimeTest {
    private static final Due DUE = new Due("StartAndTimeTest");

    public static void main(String[] args) {
        nothingIsTold();
        timeGoes();
        timeEnds();
        DUE.end();
    }

    private static void nothingIsTold() {
        AskTrust x = new AskTrust();
        DUE.is("NONE", AskTrust.NONE, -1);
        for (int what = 0; what <= 6; what++) {
            DUE.is("count " + what, x.count(what), 0);
        }
        for (int person = 0; person < 10; person++) {
            DUE.is("facts", x.facts(person * 1111 / 10 * 10), 0);
        }
        for (int judge = 0; judge < 4; judge++) {
            DUE.is("keeps", x.keeps(judge), 0);
        }
        DUE.is("lost", x.lost(), 0);
        DUE.is("log", x.log(0, 0), -1);
        DUE.is("why", x.why(0, 0), -1);
        DUE.is("law on no RULES", x.law(0, 3), -1);
        DUE.is("ask: no RULE fits", x.ask(0), 2);
    }

    private static void timeGoes() {
        AskTrust x = new AskTrust();
        DUE.is("go 0", x.go(0), 0);
        DUE.is("go 1", x.go(1), 1);
        DUE.is("go 200", x.go(200), 201);
        DUE.is("go 201", x.go(201), -1);
        DUE.is("go -1", x.go(-1), -1);
        DUE.is("go least", x.go(Integer.MIN_VALUE), -1);
        DUE.is("go most", x.go(Integer.MAX_VALUE), -1);
        DUE.is("NOW after what was refused", x.count(0), 201);
    }

    private static void timeEnds() {
        AskTrust x = new AskTrust();
        for (int i = 1; i <= 24; i++) {
            DUE.is("go", x.go(200), i * 200);
        }
        DUE.is("go 199", x.go(199), 4999);
        DUE.is("a mark at 4999", x.mark(0, 2, 3) ? 1 : 0, 1);
        DUE.yes("a LIMIT of 0", x.sort(2, 0, 1));
        DUE.is("facts", x.facts(0), 240);
        DUE.is("go beyond the last TICK", x.go(200), 5000);
        DUE.is("facts", x.facts(0), 0);
        DUE.is("go at the last TICK", x.go(7), 5000);
        DUE.is("go 0 at the last TICK", x.go(0), 5000);
        DUE.is("go 201 at the last TICK", x.go(201), -1);
        DUE.is("NOW", x.count(0), 5000);
    }
}
