/** Promises 13 (judge), 14 (judged) and 15 (keeps). */
final class JudgeTest {
    private static final Due DUE = new Due("JudgeTest");
    private static final int ANYWHERE = 151504;

    public static void main(String[] args) {
        wrongCallsAreRefused();
        answersAreKeptForSpan();
        spanIsToldLater();
        theWayIsTwoAtFirst();
        lettersTakeTheirWay();
        lettersComeAtOnce();
        everyChangeSendsLetters();
        refusedChangesSendNone();
        ageingSendsNone();
        noLetterComesAfterTheLastTick();
        DUE.end();
    }

    private static AskTrust letting() {
        AskTrust x = new AskTrust();
        x.rule(0, 3000, ANYWHERE, 0);
        x.go(20);
        return x;
    }

    private static void wrongCallsAreRefused() {
        AskTrust x = letting();
        for (int judge : new int[] {-1, 4, Integer.MAX_VALUE, Integer.MIN_VALUE}) {
            DUE.no("judge " + judge, x.judge(judge, 0, 0));
            DUE.is("judged " + judge, x.judged(judge, 0), -1);
            DUE.is("keeps " + judge, x.keeps(judge), -1);
        }
        DUE.no("span -1", x.judge(0, -1, 0));
        DUE.no("span 51", x.judge(0, 51, 0));
        DUE.no("way -1", x.judge(0, 0, -1));
        DUE.no("way 21", x.judge(0, 0, 21));
        for (int who : new int[] {-1, 4, 9994, 10000}) {
            DUE.is("judged of " + who, x.judged(0, who), -1);
        }
        DUE.is("nothing is kept", x.keeps(0), 0);
        DUE.is("nothing is logged", x.count(4), 0);
        DUE.is("judged", x.judged(3, 9993), 0);
        DUE.is("nothing is logged", x.count(4), 0);
        x.go(5);
        DUE.is("the SPAN is 5", x.keeps(3), 1);
        x.go(1);
        DUE.is("the SPAN is 5", x.keeps(3), 0);
        DUE.yes("the most", x.judge(0, 50, 20));
        DUE.yes("the least", x.judge(0, 0, 0));
    }

    private static void answersAreKeptForSpan() {
        AskTrust x = letting();
        x.judge(1, 3, 20);
        DUE.is("made at 20", x.judged(1, 0), 0);
        DUE.is("another ASK", x.judged(1, 1), 0);
        DUE.is("another JUDGE", x.judged(2, 0), 0);
        DUE.is("none was kept before", x.count(6), 0);
        DUE.is("keeps", x.keeps(1), 2);
        DUE.is("keeps", x.keeps(2), 1);
        x.rule(0, 3000, ANYWHERE, 2);
        x.unrule(0, 0);
        DUE.is("ask", x.ask(0), 2);
        DUE.is("kept", x.judged(1, 0), 0);
        x.go(3);
        DUE.is("kept for 3 TICKS", x.judged(1, 0), 0);
        DUE.is("told what was kept", x.count(6), 2);
        x.go(1);
        DUE.is("keeps none that could be told", x.keeps(1), 0);
        DUE.is("made at 24", x.judged(1, 0), 2);
        DUE.is("keeps", x.keeps(1), 1);
        x.go(3);
        DUE.is("kept since it was made anew", x.judged(1, 0), 2);
        DUE.is("told what was kept", x.count(6), 3);
    }

    private static void spanIsToldLater() {
        AskTrust x = letting();
        x.judged(0, 0);
        x.go(4);
        x.judge(0, 3, 2);
        DUE.is("a shorter SPAN", x.keeps(0), 0);
        x.judge(0, 4, 2);
        DUE.is("a longer SPAN", x.keeps(0), 1);
        x.judged(0, 0);
        DUE.is("told what was kept", x.count(6), 1);
        x.go(1);
        DUE.is("telling doesn't make it anew", x.keeps(0), 0);
    }

    private static void theWayIsTwoAtFirst() {
        AskTrust x = letting();
        for (int judge = 0; judge < 4; judge++) {
            x.judged(judge, 0);
        }
        x.roles(0, 0);
        x.go(1);
        for (int judge = 0; judge < 4; judge++) {
            DUE.is("one TICK later", x.keeps(judge), 1);
        }
        x.go(1);
        for (int judge = 0; judge < 4; judge++) {
            DUE.is("two TICKS later", x.keeps(judge), 0);
        }
    }

    private static void lettersTakeTheirWay() {
        AskTrust x = letting();
        x.judge(0, 50, 3);
        x.judge(1, 50, 20);
        x.judged(0, 0);
        x.judged(1, 0);
        x.rule(1, 0, ANYWHERE, 0);
        x.judge(0, 50, 0);
        x.go(2);
        x.judged(0, 1);
        DUE.is("a WAY told later isn't for it", x.keeps(0), 2);
        x.go(0);
        DUE.is("no TICK passed", x.keeps(0), 2);
        x.go(1);
        DUE.is("it comes, for all that is kept", x.keeps(0), 0);
        x.judged(0, 0);
        DUE.is("kept behind it", x.keeps(0), 1);
        x.go(16);
        DUE.is("the other JUDGE's letter isn't there", x.keeps(1), 1);
        x.judge(1, 50, 5);
        x.roles(0, 0);
        x.go(1);
        DUE.is("it comes", x.keeps(1), 0);
        x.judged(1, 0);
        x.go(3);
        DUE.is("the next one isn't there", x.keeps(1), 1);
        x.go(200);
        x.judge(1, 50, 2);
        x.judged(1, 0);
        x.roles(0, 0);
        x.go(1);
        x.roles(0, 0);
        x.go(1);
        DUE.is("the first of two", x.keeps(1), 0);
        x.judged(1, 0);
        x.go(1);
        DUE.is("the second of two", x.keeps(1), 0);
        x.judged(1, 0);
        x.go(50);
        DUE.is("no third", x.keeps(1), 1);
    }

    private static void lettersComeAtOnce() {
        AskTrust x = letting();
        x.judge(0, 50, 0);
        x.judged(0, 0);
        x.judged(0, 10);
        DUE.is("keeps", x.keeps(0), 2);
        x.mark(9, 0, 0);
        DUE.is("keeps nothing at once", x.keeps(0), 0);
        x.judged(0, 0);
        x.go(30);
        DUE.is("that letter comes once", x.keeps(0), 1);
    }

    private static AskTrust keeping() {
        AskTrust x = letting();
        for (int judge = 0; judge < 4; judge++) {
            x.judge(judge, 50, judge);
            x.judged(judge, 0);
        }
        return x;
    }

    private static void oneLetterToEach(String change, AskTrust x) {
        for (int judge = 0; judge < 4; judge++) {
            for (int other = 0; other < 4; other++) {
                DUE.is("keeps after " + change, x.keeps(other), other <= judge ? 0 : 1);
            }
            x.go(1);
        }
    }

    private static void everyChangeSendsLetters() {
        AskTrust x = keeping();
        x.roles(7, 0);
        oneLetterToEach("the same ROLES", x);
        x = keeping();
        x.mark(7, 2, 0);
        oneLetterToEach("a MARK", x);
        x = keeping();
        x.thing(7, 0, 0);
        oneLetterToEach("the same THING", x);
        x = keeping();
        x.sort(0, 20, 1);
        oneLetterToEach("the same LIMIT and WEIGHT", x);
        x = keeping();
        x.rule(1, 0, ANYWHERE, 2);
        oneLetterToEach("a RULE of the other HEAP", x);
        x = keeping();
        x.unrule(0, 0);
        oneLetterToEach("a RULE that went", x);
        x = keeping();
        x.move(false);
        oneLetterToEach("a move", x);
        x = keeping();
        x.ask(0);
        x.move(true);
        oneLetterToEach("a move anyway", x);
    }

    private static void refusedChangesSendNone() {
        AskTrust x = keeping();
        x.ask(0);
        x.roles(0, 16);
        x.mark(0, 3, 0);
        x.thing(0, 4, 0);
        x.sort(0, 501, 0);
        x.rule(0, 0, ANYWHERE, 1);
        x.unrule(0, 1);
        DUE.no("move", x.move(false));
        x.judge(0, 50, 21);
        x.judge(1, 50, 1);
        x.go(10);
        for (int judge = 0; judge < 4; judge++) {
            DUE.is("keeps", x.keeps(judge), 1);
        }
    }

    private static void ageingSendsNone() {
        AskTrust x = new AskTrust();
        x.judge(0, 50, 1);
        x.rule(0, 2300, ANYWHERE, 0);
        x.mark(0, 2, 3);
        x.go(20);
        DUE.is("FRESH", x.judged(0, 0), 0);
        x.go(1);
        DUE.is("not FRESH", x.ask(0), 1);
        DUE.is("kept yet", x.judged(0, 0), 0);
        x.go(50);
        DUE.is("STEP UP is kept too", x.judged(0, 0), 1);
        DUE.is("STEP UP is kept too", x.judged(0, 0), 1);
        DUE.is("told what was kept", x.count(6), 2);
    }

    private static void noLetterComesAfterTheLastTick() {
        AskTrust x = letting();
        for (int i = 0; i < 25; i++) {
            x.go(200);
        }
        x.judged(0, 0);
        x.roles(0, 1);
        x.go(2);
        DUE.is("NOW stays, so no letter comes", x.keeps(0), 1);
        x.judge(0, 5, 0);
        x.roles(0, 1);
        DUE.is("but for a WAY of 0", x.keeps(0), 0);
    }
}
