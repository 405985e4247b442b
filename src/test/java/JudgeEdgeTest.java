/** Part 3 of "Terms", and promises 13 to 15: each sentence that names a bound has a test of its own. */
final class JudgeEdgeTest {
    private static final Due DUE = new Due("JudgeEdgeTest");
    private static final int[] NO_JUDGES = {-1, 4, Numbers.MOST_INT, Numbers.LEAST_INT};

    public static void main(String[] args) {
        judgesAre0To3();
        spansAre0To50();
        theSpanIs5AtFirst();
        waysAre0To20();
        theWayIs2AtFirst();
        answersAreToldUpToTheSpan();
        thatVeryAsk();
        aShorterSpan();
        lettersComeWayTicksLater();
        lettersComeAtTheBeginOfTheirTick();
        lettersComeAlsoInALeap();
        lettersComeAtOnce();
        aWayThatIsToldLater();
        lettersOfEachChange();
        lettersOfTheSameRoles();
        lettersOfEachTick();
        noTickAfterTheLast();
        noSuchAsk();
        keepsNothing();
        keepsAll();
        DUE.end();
    }

    /**
     * PERSON 0 is LET at this TICK alone, for the MARK is FRESH for 0 TICKS, and STEP UP later: so the
     * ANSWER tells whether it was kept. No letter is on its way.
     */
    private static AskTrust lettingNow() {
        AskTrust x = new AskTrust();
        for (int judge = 0; judge <= 3; judge++) {
            x.judge(judge, 50, 0);
        }
        x.sort(2, 0, 1);
        x.rule(0, Numbers.what(0, 2, 3, 0), Numbers.ANYWHERE, Numbers.LET);
        x.go(20);
        x.mark(0, 2, 3);
        return x;
    }

    private static void judgesAre0To3() {
        DUE.sentence("A JUDGE's SPAN and WAY: true; false if there is none such, or they can't be.");
        AskTrust x = lettingNow();
        for (int judge = 0; judge <= 3; judge++) {
            DUE.yes("judge " + judge, x.judge(judge, judge, judge));
            DUE.is("judged " + judge, x.judged(judge, 0), Numbers.LET);
            DUE.is("keeps " + judge, x.keeps(judge), 1);
        }
        for (int judge : NO_JUDGES) {
            DUE.no("judge " + judge, x.judge(judge, 50, 0));
        }
        for (int tick = 0; tick <= 4; tick++) {
            for (int judge = 0; judge <= 3; judge++) {
                DUE.is("keeps " + judge + " at " + tick, x.keeps(judge), tick <= judge ? 1 : 0);
            }
            x.go(1);
        }
    }

    private static void spansAre0To50() {
        DUE.sentence("each with a SPAN (TICKS that an ANSWER is kept, 0 .. 50; 5 at first)");
        for (int span : new int[] {0, 1, 49, 50}) {
            AskTrust x = lettingNow();
            DUE.yes("span " + span, x.judge(3, span, 20));
            for (int wrong : new int[] {-1, 51, Numbers.MOST_INT, Numbers.LEAST_INT}) {
                DUE.no("span " + wrong, x.judge(3, wrong, 20));
            }
            keptForSpan(x, 3, span);
        }
    }

    private static void keptForSpan(AskTrust x, int judge, int span) {
        DUE.is("made", x.judged(judge, 0), Numbers.LET);
        x.go(span);
        DUE.is("keeps, " + span + " TICKS later", x.keeps(judge), 1);
        DUE.is("judged, " + span + " TICKS later", x.judged(judge, 0), Numbers.LET);
        DUE.is("told what was kept", x.count(6), 1);
        x.go(1);
        DUE.is("keeps, " + span + " + 1 TICKS later", x.keeps(judge), 0);
        DUE.is("judged, " + span + " + 1 TICKS later", x.judged(judge, 0), Numbers.STEP_UP);
        DUE.is("told what was kept", x.count(6), 1);
        DUE.is("keeps what was made anew", x.keeps(judge), 1);
    }

    private static void theSpanIs5AtFirst() {
        DUE.sentence("each with a SPAN (TICKS that an ANSWER is kept, 0 .. 50; 5 at first)");
        for (int judge = 0; judge <= 3; judge++) {
            AskTrust x = new AskTrust();
            x.rule(0, Numbers.ANYBODY, Numbers.ANYWHERE, Numbers.LET);
            x.go(2);
            x.judged(judge, 0);
            x.go(5);
            DUE.is("keeps 5 TICKS later", x.keeps(judge), 1);
            x.go(1);
            DUE.is("keeps 6 TICKS later", x.keeps(judge), 0);
        }
    }

    private static void waysAre0To20() {
        DUE.sentence("and a WAY (TICKS that a letter takes, 0 .. 20; 2 at first)");
        for (int way : new int[] {0, 1, 19, 20}) {
            AskTrust x = lettingNow();
            DUE.yes("way " + way, x.judge(3, 50, way));
            for (int wrong : new int[] {-1, 21, 32, Numbers.MOST_INT, Numbers.LEAST_INT}) {
                DUE.no("way " + wrong, x.judge(3, 50, wrong));
            }
            keptForWay(x, 3, way);
        }
    }

    private static void keptForWay(AskTrust x, int judge, int way) {
        x.judged(judge, 0);
        DUE.is("keeps before the CHANGE", x.keeps(judge), 1);
        x.roles(9, 9);
        if (way > 0) {
            x.go(way - 1);
            DUE.is("keeps " + way + " - 1 TICKS later", x.keeps(judge), 1);
            x.go(1);
        }
        DUE.is("keeps " + way + " TICKS later", x.keeps(judge), 0);
    }

    private static void theWayIs2AtFirst() {
        DUE.sentence("and a WAY (TICKS that a letter takes, 0 .. 20; 2 at first)");
        for (int judge = 0; judge <= 3; judge++) {
            keptForWay(new AskTrust(), judge, 2);
        }
    }

    private static void answersAreToldUpToTheSpan() {
        DUE.sentence("if it has one that was made not more than SPAN TICKS ago; else the ANSWER NOW, which it keeps");
        AskTrust x = lettingNow();
        x.judge(0, 0, 20);
        DUE.is("made", x.judged(0, 0), Numbers.LET);
        DUE.is("told in the same TICK with a SPAN of 0", x.judged(0, 0), Numbers.LET);
        DUE.is("it was kept", x.count(6), 1);
        x.go(1);
        DUE.is("made a TICK later", x.judged(0, 0), Numbers.STEP_UP);
        DUE.is("it wasn't kept", x.count(6), 1);
        DUE.is("told in that TICK", x.judged(0, 0), Numbers.STEP_UP);
        DUE.is("it was kept", x.count(6), 2);
        x.judge(0, 3, 20);
        x.go(3);
        DUE.is("told 3 TICKS after it was made anew", x.judged(0, 0), Numbers.STEP_UP);
        DUE.is("it was kept", x.count(6), 3);
        x.go(1);
        x.judged(0, 0);
        DUE.is("that it was told made it no younger", x.count(6), 3);
    }

    private static void thatVeryAsk() {
        DUE.sentence("it tells the ANSWER that it keeps for that very ASK");
        AskTrust x = lettingNow();
        x.judged(0, Numbers.who(1, 1, 1, 1));
        int[] others = {Numbers.who(2, 1, 1, 1), Numbers.who(1, 2, 1, 1), Numbers.who(1, 1, 2, 1), Numbers.who(1, 1, 1, 2)};
        for (int i = 0; i < others.length; i++) {
            x.judged(0, others[i]);
            DUE.is("none was kept", x.count(6), 0);
            DUE.is("keeps", x.keeps(0), i + 2);
        }
        x.judged(1, Numbers.who(1, 1, 1, 1));
        DUE.is("none was kept by another JUDGE", x.count(6), 0);
        x.judged(0, Numbers.who(1, 1, 1, 1));
        DUE.is("that very one was kept", x.count(6), 1);
    }

    private static void aShorterSpan() {
        DUE.sentence("(Those longer kept than SPAN aren't told any more.)");
        AskTrust x = lettingNow();
        x.judged(0, 0);
        x.go(7);
        x.judge(0, 7, 20);
        DUE.is("made 7 TICKS ago, SPAN 7", x.keeps(0), 1);
        DUE.is("judged", x.judged(0, 0), Numbers.LET);
        x.judge(0, 6, 20);
        DUE.is("made 7 TICKS ago, SPAN 6", x.keeps(0), 0);
        DUE.is("judged", x.judged(0, 0), Numbers.STEP_UP);
        DUE.is("told what was kept", x.count(6), 1);
    }

    private static void lettersComeWayTicksLater() {
        DUE.sentence("as it comes (WAY TICKS later, at the begin of that TICK; at once, if WAY is 0)");
        for (int way = 0; way <= 20; way++) {
            AskTrust x = lettingNow();
            x.judge(1, 50, way);
            keptForWay(x, 1, way);
        }
    }

    private static void lettersComeAtTheBeginOfTheirTick() {
        DUE.sentence("(WAY TICKS later, at the begin of that TICK");
        AskTrust x = lettingNow();
        x.judge(0, 50, 3);
        x.judged(0, 0);
        x.roles(9, 9);
        x.go(3);
        DUE.is("judged anew in the TICK in which it comes", x.judged(0, 0), Numbers.STEP_UP);
        DUE.is("which it keeps", x.keeps(0), 1);
        x.go(0);
        DUE.is("that TICK begins but once", x.keeps(0), 1);
        x.go(1);
        DUE.is("and keeps later", x.keeps(0), 1);
    }

    private static void lettersComeAlsoInALeap() {
        DUE.sentence("the JUDGE keeps nothing any more");
        for (int way : new int[] {1, 2, 19, 20}) {
            for (int leap : new int[] {way, way + 1, 21, 31, 32, 33, 50}) {
                AskTrust x = lettingNow();
                x.judge(0, 50, way);
                x.judged(0, 0);
                x.roles(9, 9);
                x.go(leap);
                DUE.is("WAY " + way + ", go " + leap, x.keeps(0), 0);
                x.judged(0, 0);
                x.go(50);
                DUE.is("none comes twice", x.keeps(0), 1);
            }
        }
        AskTrust y = lettingNow();
        y.judge(0, 50, 20);
        y.judged(0, 0);
        y.roles(9, 9);
        y.go(19);
        DUE.is("19 of 20 TICKS", y.keeps(0), 1);
        y.go(200);
        y.judged(0, 0);
        y.go(50);
        DUE.is("none is left", y.keeps(0), 1);
    }

    private static void lettersComeAtOnce() {
        DUE.sentence("at once, if WAY is 0)");
        AskTrust x = lettingNow();
        x.judge(0, 50, 0);
        x.judge(1, 50, 1);
        for (int place = 0; place <= 3; place++) {
            x.judged(0, place);
            x.judged(1, place);
        }
        x.roles(9, 9);
        DUE.is("all are gone", x.keeps(0), 0);
        DUE.is("none is gone with a WAY of 1", x.keeps(1), 4);
        x.judged(0, 0);
        DUE.is("kept in the same TICK", x.keeps(0), 1);
        x.go(50);
        DUE.is("no letter comes later", x.keeps(0), 1);
        DUE.is("the other one came", x.keeps(1), 0);
    }

    private static void aWayThatIsToldLater() {
        DUE.sentence("(A WAY that is told later is for letters that are sent then.)");
        AskTrust x = lettingNow();
        x.judge(0, 50, 10);
        x.judged(0, 0);
        x.roles(9, 9);
        x.judge(0, 50, 0);
        DUE.is("a letter isn't sped up", x.keeps(0), 1);
        x.go(9);
        DUE.is("not there", x.keeps(0), 1);
        x.judge(0, 50, 20);
        x.go(1);
        DUE.is("nor slowed down", x.keeps(0), 0);
        x.judged(0, 0);
        x.roles(9, 9);
        x.judge(0, 50, 1);
        x.roles(9, 9);
        x.go(1);
        DUE.is("a later letter comes before", x.keeps(0), 0);
        x.judged(0, 0);
        x.go(18);
        DUE.is("the former isn't there", x.keeps(0), 1);
        x.go(1);
        DUE.is("it comes at its own TICK", x.keeps(0), 0);
    }

    /** A CHANGE by its number; those of 2, 3 and 4 tell what was told already. */
    private static boolean change(AskTrust x, int number) {
        switch (number) {
            case 0: return x.roles(9, 15);
            case 1: return x.mark(9, 0, 3);
            case 2: return x.roles(9, 0);
            case 3: return x.thing(9, 0, 0);
            case 4: return x.sort(0, 20, 1);
            case 5: return x.sort(1, 0, 1);
            case 6: return x.sort(1, 20, 0);
            case 7: return x.thing(9, 3, 4);
            case 8: return x.rule(0, Numbers.ANYBODY, Numbers.ANYWHERE, Numbers.SHUT) == 2;
            case 9: return x.rule(1, Numbers.ANYBODY, Numbers.ANYWHERE, Numbers.SHUT) == 1;
            case 10: return x.unrule(0, 0);
            case 11: return x.move(false);
            default: return x.move(true);
        }
    }

    private static void lettersOfEachChange() {
        DUE.sentence("A CHANGE (of ROLES, a MARK, a THING, LIMITS, WEIGHTS, RULES, the HEAP in force) sends a letter to all");
        for (int number = 0; number <= 12; number++) {
            AskTrust x = lettingNow();
            for (int judge = 0; judge <= 3; judge++) {
                x.judge(judge, 50, judge);
                x.judged(judge, 0);
            }
            DUE.yes("CHANGE " + number, change(x, number));
            for (int tick = 0; tick <= 3; tick++) {
                for (int judge = 0; judge <= 3; judge++) {
                    DUE.is("JUDGE " + judge + " keeps, CHANGE " + number, x.keeps(judge), tick < judge ? 1 : 0);
                }
                x.go(1);
            }
        }
    }

    private static void lettersOfTheSameRoles() {
        DUE.sentence("(A CHANGE, also if they are the same.)");
        for (int roles : new int[] {0, 15}) {
            AskTrust x = lettingNow();
            x.roles(9, roles);
            x.judged(0, 0);
            DUE.is("keeps", x.keeps(0), 1);
            DUE.yes("the same ROLES", x.roles(9, roles));
            DUE.is("keeps", x.keeps(0), 0);
        }
    }

    private static void lettersOfEachTick() {
        DUE.sentence("sends a letter to all");
        AskTrust x = lettingNow();
        x.judge(0, 50, 20);
        for (int tick = 0; tick < 20; tick++) {
            x.roles(9, 9);
            x.go(1);
        }
        for (int tick = 0; tick < 20; tick++) {
            x.judged(0, 0);
            DUE.is("kept", x.keeps(0), 1);
            if (tick < 19) {
                x.go(1);
                DUE.is("the next letter", x.keeps(0), 0);
            }
        }
        x.go(1);
        DUE.is("no letter more", x.keeps(0), 1);
    }

    private static void noTickAfterTheLast() {
        DUE.sentence("TICKS are 0 .. 5000; NOW is one (0 at first).");
        for (int way = 1; way <= 2; way++) {
            AskTrust x = lettingNow();
            Numbers.pass(x, 4998 - x.count(0));
            x.judge(0, 50, way);
            x.judged(0, 0);
            x.roles(9, 9);
            x.go(1);
            DUE.is("at 4999", x.keeps(0), way == 1 ? 0 : 1);
            x.judged(0, 0);
            x.go(1);
            DUE.is("at 5000", x.keeps(0), way == 1 ? 1 : 0);
            x.judged(0, 0);
            x.roles(9, 9);
            DUE.is("go at the last TICK", x.go(200), 5000);
            DUE.is("no TICK, no letter", x.keeps(0), 1);
        }
    }

    private static void noSuchAsk() {
        DUE.sentence("A JUDGE is asked: the ANSWER; NONE if there is none such.");
        AskTrust x = lettingNow();
        for (int judge : NO_JUDGES) {
            DUE.is("judged by " + judge, x.judged(judge, 0), Numbers.NONE);
        }
        int[] noAsks = {-1, -1000, 4, 9, 9994, 9999, 10000, 10003, Numbers.MOST_INT, Numbers.LEAST_INT};
        for (int judge = 0; judge <= 3; judge++) {
            for (int who : noAsks) {
                DUE.is("judged of " + who, x.judged(judge, who), Numbers.NONE);
            }
            DUE.is("keeps", x.keeps(judge), 0);
        }
        DUE.is("the least ASK", x.judged(0, 0), Numbers.LET);
        DUE.is("the greatest ASK", x.judged(3, 9993), Numbers.STEP_UP);
        DUE.is("SHUT is told too", new AskTrust().judged(3, 9993), Numbers.SHUT);
    }

    private static void keepsNothing() {
        DUE.sentence("How many ANSWERS a JUDGE keeps that could be told yet; NONE if there is none such.");
        AskTrust x = new AskTrust();
        for (int judge = 0; judge <= 3; judge++) {
            DUE.is("keeps of a new one", x.keeps(judge), 0);
        }
        for (int judge : NO_JUDGES) {
            DUE.is("keeps of " + judge, x.keeps(judge), Numbers.NONE);
        }
    }

    private static void keepsAll() {
        DUE.sentence("How many ANSWERS a JUDGE keeps that could be told yet");
        AskTrust x = new AskTrust();
        for (int i = 0; i < 250; i++) {
            DUE.is("made", x.judged(2, i * 40), Numbers.SHUT);
        }
        DUE.is("keeps 250", x.keeps(2), 250);
        for (int i = 0; i < 250; i++) {
            DUE.is("told", x.judged(2, i * 40), Numbers.SHUT);
        }
        DUE.is("keeps 250 yet", x.keeps(2), 250);
        DUE.is("all were told", x.count(6), 250);
        DUE.is("the others keep nothing", x.keeps(1) + x.keeps(3), 0);
    }
}
