/** Promises 9 (ask) and 10 (behalf). */
final class AskTest {
    private static final Due DUE = new Due("AskTest");
    private static final int ANYWHERE = 151504;

    public static void main(String[] args) {
        wrongAsksAreRefused();
        firstFitDecides();
        stepUpIsAsked();
        stepUpCountsForSure();
        stepUpMayBeShut();
        behalfTakesTheWorse();
        logIsFull();
        DUE.end();
    }

    private static void wrongAsksAreRefused() {
        AskTrust x = new AskTrust();
        for (int who : new int[] {-1, -10, 4, 9, 9994, 10000, Integer.MAX_VALUE, Integer.MIN_VALUE}) {
            DUE.is("ask " + who, x.ask(who), -1);
            DUE.is("behalf " + who, x.behalf(who, 1), -1);
        }
        for (int person : new int[] {-1, 3, 10, Integer.MAX_VALUE, Integer.MIN_VALUE}) {
            DUE.is("behalf of " + person, x.behalf(3120, person), -1);
        }
        DUE.is("behalf of oneself", x.behalf(9990, 9), -1);
        DUE.is("behalf of oneself", x.behalf(0, 0), -1);
        DUE.is("nothing is logged", x.count(4), 0);
        DUE.is("ask 9993", x.ask(9993), 2);
        DUE.is("behalf of 9", x.behalf(0, 9), 2);
        DUE.is("two are logged", x.count(4), 2);
    }

    private static void firstFitDecides() {
        AskTrust x = new AskTrust();
        x.roles(0, 1);
        x.roles(1, 3);
        x.rule(0, 23000, ANYWHERE, 2);
        x.rule(0, 13000, ANYWHERE, 0);
        x.rule(0, 3000, ANYWHERE, 2);
        x.rule(1, 3000, ANYWHERE, 0);
        DUE.is("the second lets", x.ask(0), 0);
        DUE.is("the first shuts", x.ask(1000), 2);
        DUE.is("the third shuts", x.ask(2000), 2);
        x.move(true);
        DUE.is("the other HEAP lets", x.ask(1000), 0);
    }

    private static void stepUpIsAsked() {
        AskTrust x = new AskTrust();
        x.rule(0, 12200, ANYWHERE, 0);
        DUE.is("the ROLE lacks too", x.ask(0), 2);
        x.roles(0, 1);
        DUE.is("just the MARK lacks", x.ask(0), 1);
        x.mark(0, 2, 1);
        DUE.is("it is too weak", x.ask(0), 1);
        x.mark(0, 2, 2);
        DUE.is("it is enough", x.ask(0), 0);
        x.go(21);
        DUE.is("it is too old", x.ask(0), 1);
        x.rule(1, 300, ANYWHERE, 0);
        x.move(true);
        DUE.is("a MARK of another sort lacks", x.ask(0), 2);
    }

    private static void stepUpCountsForSure() {
        AskTrust x = new AskTrust();
        x.sort(2, 20, 4);
        x.mark(0, 0, 1);
        x.rule(0, 3013, ANYWHERE, 0);
        DUE.is("SURE could be 13", x.ask(0), 1);
        x.unrule(0, 0);
        x.rule(0, 3014, ANYWHERE, 0);
        DUE.is("SURE couldn't be 14", x.ask(0), 2);
    }

    private static void stepUpMayBeShut() {
        AskTrust x = new AskTrust();
        x.rule(0, 2300, ANYWHERE, 2);
        x.rule(0, 2200, ANYWHERE, 0);
        DUE.is("value 3 is SHUT", x.ask(0), 2);
        x.mark(0, 2, 2);
        DUE.is("value 2 is LET", x.ask(0), 0);
        x.mark(0, 2, 3);
        DUE.is("value 3 is SHUT", x.ask(0), 2);
    }

    private static void behalfTakesTheWorse() {
        AskTrust x = new AskTrust();
        x.rule(0, 10000, ANYWHERE, 0);
        x.rule(0, 22300, ANYWHERE, 0);
        x.roles(0, 1);
        x.roles(1, 1);
        x.roles(2, 2);
        DUE.is("LET and LET", x.behalf(0, 1), 0);
        DUE.is("LET and STEP UP", x.behalf(0, 2), 1);
        DUE.is("STEP UP and LET", x.behalf(2000, 0), 1);
        DUE.is("LET and SHUT", x.behalf(0, 3), 2);
        DUE.is("SHUT and LET", x.behalf(3000, 0), 2);
        DUE.is("STEP UP and SHUT", x.behalf(2000, 3), 2);
        DUE.is("SHUT and STEP UP", x.behalf(3000, 2), 2);
        AskTrust y = new AskTrust();
        y.mark(5, 0, 2);
        y.thing(6, 1, 1);
        y.rule(0, 200, 80211, 0);
        DUE.is("the same MACHINE, THING and PLACE", y.behalf(1563, 2), 0);
    }

    private static void logIsFull() {
        AskTrust x = new AskTrust();
        x.rule(0, 3000, ANYWHERE, 0);
        for (int i = 0; i < 300; i++) {
            DUE.is("ask", i % 2 == 0 ? x.ask(0) : x.behalf(0, 1), 0);
        }
        DUE.is("ask 301", x.ask(0), -1);
        DUE.is("behalf 301", x.behalf(0, 1), -1);
        DUE.is("logged", x.count(4), 300);
        DUE.is("LET", x.count(5), 300);
        DUE.is("the last one", x.log(299, 4), 1);
        DUE.is("none behind it", x.log(300, 4), -1);
        DUE.is("JUDGES are asked yet", x.judged(0, 0), 0);
    }
}
