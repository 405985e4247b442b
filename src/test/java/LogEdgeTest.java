/** The log in part 4 of "Terms", and promises 9, 10 and 19 to 22: each sentence that names a bound has a test of its own. */
final class LogEdgeTest {
    private static final Due DUE = new Due("LogEdgeTest");
    private static final int[] NONE_SUCH = {-1, Numbers.MOST_INT, Numbers.LEAST_INT};

    public static void main(String[] args) {
        asksToJudgesAreNotLogged();
        atMost300AreLogged();
        atMost300OnBehalfAreLogged();
        logOfNone();
        logOfAsks();
        logOnBehalf();
        theLatest40();
        theLatest40OfAFullLog();
        thoseThatWereLet();
        factsAsTheyWereThen();
        nothingIsLost();
        moveIfNothingIsLost();
        countsOfNone();
        countsOfFullOnes();
        theLast512thCall();
        DUE.end();
    }

    /** HEAP 0 lets PERSON 1 alone, HEAP 1 nobody. */
    private static AskTrust lettingOne() {
        AskTrust x = new AskTrust();
        x.roles(1, 1);
        x.rule(0, Numbers.what(1, 3, 0, 0), Numbers.ANYWHERE, Numbers.LET);
        return x;
    }

    private static void ask(AskTrust x, int who, int times) {
        for (int i = 0; i < times; i++) {
            x.ask(who);
        }
    }

    private static void asksToJudgesAreNotLogged() {
        DUE.sentence("Each ASK to the house itself (not those to JUDGES) is logged");
        AskTrust x = lettingOne();
        x.judged(0, 1000);
        x.judged(0, 1000);
        DUE.is("logged", x.count(4), 0);
        DUE.is("LET", x.count(5), 0);
        DUE.is("log", x.log(0, 1), Numbers.NONE);
        DUE.is("lost", x.lost(), 0);
        x.ask(1000);
        DUE.is("logged", x.count(4), 1);
        x.behalf(1000, 2);
        DUE.is("logged", x.count(4), 2);
    }

    private static void full(AskTrust x) {
        DUE.is("logged", x.count(4), 300);
        DUE.is("ask 301", x.ask(1000), Numbers.NONE);
        DUE.is("behalf 301", x.behalf(1000, 2), Numbers.NONE);
        DUE.is("logged yet", x.count(4), 300);
        DUE.is("the last", x.log(299, 1), 1000);
        for (int what = 0; what <= 4; what++) {
            DUE.is("one behind the last", x.log(300, what), Numbers.NONE);
        }
        DUE.is("a JUDGE is asked yet", x.judged(0, 1000), Numbers.LET);
        DUE.is("why", x.why(0, 1000), 0);
    }

    private static void atMost300AreLogged() {
        DUE.sentence("NONE if there is none such, or 300 came.");
        AskTrust x = lettingOne();
        ask(x, 2000, 298);
        DUE.is("ask 299", x.ask(1000), Numbers.LET);
        DUE.is("logged", x.count(4), 299);
        DUE.is("ask 300", x.ask(1000), Numbers.LET);
        full(x);
        DUE.is("LET", x.count(5), 2);
        x.unrule(0, 0);
        DUE.is("ask 301, if it were SHUT", x.ask(1000), Numbers.NONE);
        DUE.is("LET", x.count(5), 2);
    }

    private static void atMost300OnBehalfAreLogged() {
        DUE.sentence("ON BEHALF of a PERSON, likewise");
        AskTrust x = lettingOne();
        for (int i = 0; i < 299; i++) {
            x.behalf(2000, 1);
        }
        DUE.is("behalf 300", x.behalf(1000, 2), Numbers.SHUT);
        full(x);
        DUE.is("LET", x.count(5), 0);
    }

    private static void logOfNone() {
        DUE.sentence("NONE for others, or if there is none such.");
        AskTrust x = lettingOne();
        for (int what = -1; what <= 5; what++) {
            DUE.is("an empty log", x.log(0, what), Numbers.NONE);
        }
        x.ask(1000);
        for (int what : new int[] {-1, 5, Numbers.MOST_INT, Numbers.LEAST_INT}) {
            DUE.is("log 0 " + what, x.log(0, what), Numbers.NONE);
        }
        for (int i : new int[] {-1, 1, 299, 300, Numbers.MOST_INT, Numbers.LEAST_INT}) {
            for (int what = 0; what <= 4; what++) {
                DUE.is("log " + i + " " + what, x.log(i, what), Numbers.NONE);
            }
        }
    }

    private static void logIs(AskTrust x, int i, int... due) {
        for (int what = 0; what <= 4; what++) {
            DUE.is("log " + i + " " + what, x.log(i, what), due[what]);
        }
    }

    private static void logOfAsks() {
        DUE.sentence("Of ASK i (from 0 on): 0 the TICK, 1 who, 2 the code of FACTS then, 3 the ANSWER, 4 for whom (NONE).");
        AskTrust x = new AskTrust();
        x.ask(0);
        x.roles(9, 15);
        x.mark(9, 0, 3);
        x.mark(9, 1, 3);
        x.mark(9, 2, 2);
        x.thing(9, 3, 4);
        x.rule(0, Numbers.what(0, 2, 3, 0), Numbers.ANYWHERE, Numbers.LET);
        x.ask(9993);
        x.mark(9, 2, 3);
        x.ask(9993);
        Numbers.pass(x, 5000);
        x.ask(9990);
        x.roles(9, 0);
        x.thing(9, 0, 0);
        logIs(x, 0, 0, 0, 0, Numbers.SHUT, Numbers.NONE);
        logIs(x, 1, 0, 9993, 81919 - 80, Numbers.STEP_UP, Numbers.NONE);
        logIs(x, 2, 0, 9993, 81919, Numbers.LET, Numbers.NONE);
        logIs(x, 3, 5000, 9990, Numbers.code(15, 0, 0, 0, 0, 3, 4), Numbers.STEP_UP, Numbers.NONE);
    }

    private static void logOnBehalf() {
        DUE.sentence("(Logged as an ASK of the one who asks, with the ANSWER that is told.)");
        AskTrust x = lettingOne();
        x.go(7);
        x.behalf(1000, 0);
        x.behalf(0, 1);
        x.roles(9, 1);
        x.behalf(9993, 1);
        logIs(x, 0, 7, 1000, Numbers.code(1, 0, 0, 0, 0, 0, 0), Numbers.SHUT, 0);
        logIs(x, 1, 7, 0, 0, Numbers.SHUT, 1);
        logIs(x, 2, 7, 9993, Numbers.code(1, 0, 0, 0, 3, 0, 0), Numbers.LET, 1);
        DUE.is("LET", x.count(5), 1);
        DUE.is("lost", x.lost(), 1);
    }

    private static void theLatest40() {
        DUE.sentence("LOST are those of the latest 40 that were LET");
        AskTrust x = lettingOne();
        ask(x, 1000, 39);
        DUE.is("lost of 39", x.lost(), 39);
        ask(x, 1000, 1);
        DUE.is("lost of 40", x.lost(), 40);
        ask(x, 1000, 1);
        DUE.is("lost of 41", x.lost(), 40);
        AskTrust y = lettingOne();
        ask(y, 1000, 1);
        ask(y, 2000, 39);
        DUE.is("the first of 40", y.lost(), 1);
        DUE.no("move", y.move(false));
        ask(y, 2000, 1);
        DUE.is("the first of 41", y.lost(), 0);
        DUE.yes("move", y.move(false));
    }

    private static void theLatest40OfAFullLog() {
        DUE.sentence("is logged, at most 300. LOST are those of the latest 40");
        AskTrust x = lettingOne();
        ask(x, 1000, 260);
        ask(x, 2000, 40);
        DUE.is("lost of 300", x.lost(), 0);
        ask(x, 1000, 1);
        DUE.is("one that was refused isn't among them", x.lost(), 0);
        AskTrust y = lettingOne();
        ask(y, 2000, 260);
        ask(y, 1000, 40);
        DUE.is("lost of 300", y.lost(), 40);
        ask(y, 2000, 1);
        DUE.is("one that was refused pushes none out", y.lost(), 40);
    }

    private static void thoseThatWereLet() {
        DUE.sentence("that were LET and wouldn't be LET by the other HEAP");
        AskTrust x = lettingOne();
        x.rule(0, Numbers.what(2, 2, 3, 0), Numbers.ANYWHERE, Numbers.LET);
        x.roles(2, 2);
        DUE.is("STEP UP", x.ask(2000), Numbers.STEP_UP);
        DUE.is("SHUT", x.ask(3000), Numbers.SHUT);
        DUE.is("neither was LET", x.lost(), 0);
        DUE.is("LET", x.ask(1000), Numbers.LET);
        DUE.is("SHUT by the other HEAP", x.lost(), 1);
        x.rule(1, Numbers.what(1, 2, 3, 0), Numbers.ANYWHERE, Numbers.LET);
        DUE.is("STEP UP by the other HEAP", x.lost(), 1);
        x.rule(1, Numbers.what(1, 2, 0, 0), Numbers.ANYWHERE, Numbers.LET);
        DUE.is("LET by the other HEAP", x.lost(), 0);
    }

    private static void factsAsTheyWereThen() {
        DUE.sentence("with FACTS as they were then");
        AskTrust x = lettingOne();
        x.mark(0, 0, 1);
        x.ask(1000);
        x.rule(1, Numbers.what(1, 0, 1, 0), Numbers.ANYWHERE, Numbers.LET);
        x.go(21);
        DUE.is("the MARK was FRESH then", x.lost(), 0);
        x.ask(1000);
        DUE.is("it isn't now", x.lost(), 1);
        x.mark(0, 0, 1);
        DUE.is("it wasn't then", x.lost(), 1);
    }

    private static void nothingIsLost() {
        DUE.sentence("How many are LOST.");
        AskTrust x = new AskTrust();
        DUE.is("of an empty log", x.lost(), 0);
        AskTrust y = lettingOne();
        y.ask(1000);
        DUE.is("by an empty HEAP", y.lost(), 1);
        for (int i = 0; i < 11; i++) {
            y.rule(1, Numbers.what(0, 3, 0, 1), Numbers.ANYWHERE, Numbers.LET);
        }
        DUE.is("by 11 that don't fit", y.lost(), 1);
        y.rule(1, Numbers.ANYBODY, Numbers.ANYWHERE, Numbers.LET);
        DUE.is("by a full HEAP", y.lost(), 0);
    }

    private static void moveIfNothingIsLost() {
        DUE.sentence("The other HEAP comes into force, if nothing is LOST (or anyway): true; false else.");
        AskTrust x = lettingOne();
        DUE.yes("of an empty log", x.move(false));
        DUE.is("HEAP 1", x.count(1), 1);
        DUE.yes("and back", x.move(false));
        DUE.is("HEAP 0", x.count(1), 0);
        x.ask(1000);
        DUE.no("one is LOST", x.move(false));
        DUE.is("HEAP 0", x.count(1), 0);
        DUE.is("ask", x.ask(1000), Numbers.LET);
        DUE.yes("anyway", x.move(true));
        DUE.is("HEAP 1", x.count(1), 1);
        DUE.is("ask", x.ask(1000), Numbers.SHUT);
        DUE.is("HEAP 0 is the other one now", x.lost(), 0);
        DUE.yes("anyway, though nothing is LOST", x.move(true));
        DUE.is("HEAP 0", x.count(1), 0);
    }

    private static void countsOfNone() {
        DUE.sentence("NONE for others.");
        AskTrust x = lettingOne();
        for (int what : NONE_SUCH) {
            DUE.is("count " + what, x.count(what), Numbers.NONE);
        }
        DUE.is("count 7", x.count(7), Numbers.NONE);
        DUE.is("count 0", x.count(0), 0);
        DUE.is("count 6", x.count(6), 0);
    }

    private static void countsOfFullOnes() {
        DUE.sentence("0 NOW, 1 the HEAP in force, 2 and 3 RULES of HEAPS 0 and 1, 4 ASKS that were logged, 5 how many were LET, "
            + "6 how often JUDGES told what they kept.");
        AskTrust x = new AskTrust();
        for (int i = 0; i < 12; i++) {
            x.rule(0, Numbers.ANYBODY, Numbers.ANYWHERE, Numbers.LET);
            x.rule(1, Numbers.what(0, 2, 3, 0), Numbers.ANYWHERE, Numbers.LET);
        }
        ask(x, 0, 200);
        x.move(true);
        ask(x, 0, 100);
        Numbers.pass(x, 5000);
        for (int i = 0; i < 101; i++) {
            x.judged(i % 2, 0);
        }
        int[] due = {5000, 1, 12, 12, 300, 200, 99};
        for (int what = 0; what <= 6; what++) {
            DUE.is("count " + what, x.count(what), due[what]);
        }
    }

    private static void theLast512thCall() {
        DUE.sentence("An object is used for at most 512 calls after it has been made; what later calls answer is free.");
        AskTrust x = lettingOne();
        for (int call = 3; call <= 511; call++) {
            DUE.is("judged", x.judged(0, call), call % 10 > 3 ? Numbers.NONE : Numbers.SHUT);
        }
        // 3 .. 511 has 51 tens, less 0, 1 and 2, with four ASKS each, and 510 and 511.
        DUE.is("keeps, at call 512", x.keeps(0), 51 * 4 - 3 + 2);
    }
}
