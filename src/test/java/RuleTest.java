/** Promises 7 (rule), 8 (unrule) and 11 (why). */
final class RuleTest {
    private static final Due DUE = new Due("RuleTest");
    private static final int ANYWHERE = 151504;

    public static void main(String[] args) {
        wrongRulesAreRefused();
        heapsAreFull();
        rulesComeUp();
        rulesAskForRoles();
        rulesAskForMarks();
        rulesAskForSure();
        rulesAskForSpots();
        DUE.end();
    }

    private static void wrongRulesAreRefused() {
        AskTrust x = new AskTrust();
        int[] wrongWhat = {-1, -10000, 160000, 4000, 9000, 400, 900, 3400, Integer.MAX_VALUE, Integer.MIN_VALUE};
        for (int what : wrongWhat) {
            DUE.is("rule what " + what, x.rule(0, what, ANYWHERE, 0), -1);
        }
        int[] wrongWhere = {-1, -10000, 161504, 151604, 159904, 151505, 151509, 151543, 151510, 151554, 151599,
            Integer.MAX_VALUE, Integer.MIN_VALUE};
        for (int where : wrongWhere) {
            DUE.is("rule where " + where, x.rule(0, 0, where, 0), -1);
        }
        for (int says : new int[] {-1, 1, 3, Integer.MIN_VALUE}) {
            DUE.is("rule says " + says, x.rule(0, 0, ANYWHERE, says), -1);
        }
        DUE.is("rule heap -1", x.rule(-1, 0, ANYWHERE, 0), -1);
        DUE.is("rule heap 2", x.rule(2, 0, ANYWHERE, 0), -1);
        DUE.is("RULES of 0", x.count(2), 0);
        DUE.is("RULES of 1", x.count(3), 0);
        DUE.is("the greatest numbers", x.rule(1, 153399, 151544, 2), 1);
        DUE.is("the least numbers", x.rule(1, 0, 0, 0), 2);
        DUE.is("least 2, most 2", x.rule(1, 0, 151522, 0), 3);
        DUE.is("RULES of 1", x.count(3), 3);
    }

    private static void heapsAreFull() {
        AskTrust x = new AskTrust();
        for (int i = 1; i <= 12; i++) {
            DUE.is("rule", x.rule(0, 0, ANYWHERE, 2), i);
        }
        DUE.is("rule 13", x.rule(0, 0, ANYWHERE, 2), -1);
        DUE.is("the other HEAP", x.rule(1, 0, ANYWHERE, 2), 1);
        DUE.no("unrule 12", x.unrule(0, 12));
        DUE.yes("unrule 11", x.unrule(0, 11));
        DUE.is("room again", x.rule(0, 0, ANYWHERE, 0), 12);
        DUE.is("RULES of 0", x.count(2), 12);
        DUE.is("RULES of 1", x.count(3), 1);
    }

    private static void rulesComeUp() {
        AskTrust x = new AskTrust();
        x.roles(0, 1);
        x.roles(1, 2);
        x.roles(2, 4);
        x.rule(1, 13000, ANYWHERE, 0);
        x.rule(1, 23000, ANYWHERE, 0);
        x.rule(1, 43000, ANYWHERE, 2);
        DUE.is("why", x.why(1, 2000), 2);
        DUE.no("unrule -1", x.unrule(1, -1));
        DUE.no("unrule 3", x.unrule(1, 3));
        DUE.no("unrule of HEAP 0", x.unrule(0, 0));
        DUE.no("unrule of HEAP -1", x.unrule(-1, 0));
        DUE.no("unrule of HEAP 2", x.unrule(2, 0));
        DUE.is("RULES of 1", x.count(3), 3);
        DUE.yes("unrule 1", x.unrule(1, 1));
        DUE.is("why of the first", x.why(1, 0), 0);
        DUE.is("why of the one that went", x.why(1, 1000), -1);
        DUE.is("why of the one behind it", x.why(1, 2000), 1);
        DUE.yes("unrule 0", x.unrule(1, 0));
        DUE.is("why", x.why(1, 2000), 0);
        DUE.yes("unrule the last", x.unrule(1, 0));
        DUE.is("why", x.why(1, 2000), -1);
        DUE.no("unrule of none", x.unrule(1, 0));
        DUE.is("why of HEAP -1", x.why(-1, 0), -1);
        DUE.is("why of HEAP 2", x.why(2, 0), -1);
        DUE.is("why of no ASK", x.why(1, 4), -1);
        DUE.is("why of no ASK", x.why(1, -1), -1);
    }

    private static void rulesAskForRoles() {
        AskTrust x = new AskTrust();
        x.rule(0, 103000, ANYWHERE, 0);
        for (int roles = 0; roles < 16; roles++) {
            x.roles(0, roles);
            DUE.is("why with ROLES " + roles, x.why(0, 0), (roles & 10) == 10 ? 0 : -1);
        }
    }

    private static void rulesAskForMarks() {
        for (int sort = 0; sort < 4; sort++) {
            AskTrust x = new AskTrust();
            x.rule(0, sort * 1000 + 200, ANYWHERE, 0);
            for (int value = 0; value < 4; value++) {
                for (int other = 0; other < 3; other++) {
                    x.mark(0, other, other == sort ? value : 3 - value);
                }
                DUE.is("why with value " + value + " of " + sort, x.why(0, 0), sort == 3 || value >= 2 ? 0 : -1);
            }
        }
    }

    private static void rulesAskForSure() {
        AskTrust x = new AskTrust();
        x.sort(0, 20, 2);
        x.sort(1, 20, 3);
        x.sort(2, 20, 5);
        x.rule(0, 3015, ANYWHERE, 0);
        x.mark(0, 0, 1);
        x.mark(0, 1, 1);
        x.mark(0, 2, 1);
        DUE.is("SURE is 10", x.why(0, 0), -1);
        x.mark(0, 0, 3);
        DUE.is("SURE is 14", x.why(0, 0), -1);
        x.sort(2, 20, 6);
        DUE.is("SURE is 15", x.why(0, 0), 0);
        x.go(21);
        DUE.is("old MARKS count as none", x.why(0, 0), -1);
        x.rule(0, 3000, ANYWHERE, 0);
        DUE.is("a SURE of 0", x.why(0, 0), 1);
    }

    private static void rulesAskForSpots() {
        AskTrust x = new AskTrust();
        x.rule(0, 3000, 5 * 10000 + 10 * 100 + 13, 0);
        for (int kind = 0; kind < 4; kind++) {
            for (int worth = 0; worth < 5; worth++) {
                x.thing(6, kind, worth);
                for (int place = 0; place < 4; place++) {
                    boolean fits = place % 2 == 0 && kind % 2 == 1 && worth >= 1 && worth <= 3;
                    DUE.is("why at " + place + kind + worth, x.why(0, 60 + place), fits ? 0 : -1);
                }
            }
        }
        x.rule(1, 3000, 1504, 0);
        x.rule(1, 3000, 150004, 0);
        DUE.is("no PLACE, no KIND", x.why(1, 60), -1);
    }
}
