/** Promises 16 (law), 17 (idle) and 18 (quarrel). */
final class ProofTest {
    private static final Due DUE = new Due("ProofTest");
    private static final int ANYWHERE = 151504;
    private static final int ROLE = 5120;

    public static void main(String[] args) {
        wrongLawsAreRefused();
        lawsOnRoles();
        lawsOnMarks();
        lawsOnSpots();
        lawsSeeFirstFitAndWeights();
        proofsForgetEarlierOnes();
        rulesAreIdle();
        rulesQuarrel();
        DUE.end();
    }

    private static void wrongLawsAreRefused() {
        AskTrust x = new AskTrust();
        x.rule(0, 3000, ANYWHERE, 0);
        int[] wrong = {-1, -10000, 40000, 5000, 9000, 500, 900, 40, 90, 4, 9, 434, Integer.MAX_VALUE, Integer.MIN_VALUE};
        for (int what : wrong) {
            DUE.is("law " + what, x.law(0, what), -2);
        }
        DUE.is("law on HEAP -1", x.law(-1, 0), -2);
        DUE.is("law on HEAP 2", x.law(2, 0), -2);
        DUE.is("the greatest number asks nothing", x.law(0, 34433), -1);
        DUE.is("the last ROLE", x.law(0, 34333), 19);
    }

    private static void lawsOnRoles() {
        AskTrust x = new AskTrust();
        x.rule(0, 13000, ANYWHERE, 0);
        DUE.is("ROLE 0 is always there", x.law(0, 30), -1);
        DUE.is("ROLE 1 isn't", x.law(0, 130), ROLE);
        x.rule(0, 23000, ANYWHERE, 0);
        DUE.is("ROLE 0 isn't, with ROLE 1", x.law(0, 30), 2 * ROLE);
        DUE.is("no RULES", x.law(1, 30), -1);
    }

    private static void lawsOnMarks() {
        AskTrust x = new AskTrust();
        x.rule(0, 1200, ANYWHERE, 0);
        DUE.is("value 0 of sort 1", x.law(0, 410), -1);
        DUE.is("value 2 of sort 1", x.law(0, 412), -1);
        DUE.is("value 3 of sort 1", x.law(0, 413), 2 * 4 * 80);
        DUE.is("value 1 of sort 0", x.law(0, 401), 2 * 4 * 80);
        DUE.is("value 2, or ROLE 3", x.law(0, 312), 2 * 4 * 80);
        x.unrule(0, 0);
        x.rule(0, 80300, ANYWHERE, 0);
        DUE.is("value 3, and ROLE 3", x.law(0, 303), -1);
        DUE.is("value 3, and ROLE 2", x.law(0, 203), 8 * ROLE + 3 * 16 * 80);
    }

    private static void lawsOnSpots() {
        AskTrust x = new AskTrust();
        x.rule(0, 3000, 12 * 10000 + 6 * 100 + 13, 0);
        DUE.is("KIND 0", x.law(0, 30), -1);
        DUE.is("KIND 1", x.law(0, 10030), 2 * 20 + 5 + 1);
        DUE.is("KIND 2, WORTH 3", x.law(0, 23030), 2 * 20 + 10 + 3);
        DUE.is("KIND 2, WORTH 4", x.law(0, 24030), -1);
        DUE.is("KIND 3", x.law(0, 30030), -1);
    }

    private static void lawsSeeFirstFitAndWeights() {
        AskTrust x = new AskTrust();
        x.rule(0, 3000, 151523, 2);
        x.rule(0, 3009, ANYWHERE, 0);
        DUE.is("SURE of 9 asks for all", x.law(0, 403), -1);
        x.sort(2, 20, 3);
        DUE.is("SURE of 9 by sort 2", x.law(0, 403), 3 * 80);
        DUE.is("WORTH 2 and 3 are SHUT before", x.law(0, 2403), 3 * 80 + 4);
        x.sort(2, 20, 0);
        DUE.is("SURE of 9 can't be", x.law(0, 403), -1);
        x.mark(0, 2, 3);
        x.rule(1, 2300, ANYWHERE, 0);
        DUE.is("STEP UP isn't LET", x.law(1, 423), -1);
    }

    private static void proofsForgetEarlierOnes() {
        AskTrust x = new AskTrust();
        x.rule(0, 3000, ANYWHERE, 0);
        x.rule(1, 3000, ANYWHERE, 2);
        DUE.is("law 0", x.law(0, 0), 0);
        DUE.is("a HEAP that shuts", x.law(1, 0), -1);
        DUE.is("law 0", x.law(0, 0), 0);
        x.unrule(0, 0);
        DUE.is("a HEAP without RULES", x.law(0, 0), -1);
        x.rule(0, 13000, ANYWHERE, 0);
        DUE.is("a RULE that asks for more ROLES", x.law(0, 130), ROLE);
        x.unrule(0, 0);
        x.rule(0, 3000, ANYWHERE, 2);
        DUE.is("a RULE that shuts", x.law(0, 0), -1);
    }

    private static void rulesAreIdle() {
        AskTrust x = new AskTrust();
        DUE.no("idle of none", x.idle(0, 0));
        x.rule(0, 13000, ANYWHERE, 0);
        x.rule(0, 33000, ANYWHERE, 2);
        x.rule(0, 23000, 30304, 2);
        x.rule(0, 23000, 120304, 2);
        x.rule(0, 23000, 150304, 0);
        x.rule(0, 3082, ANYWHERE, 0);
        x.rule(0, 3000, 1504, 0);
        x.rule(0, 0, ANYWHERE, 0);
        x.rule(0, 1100, ANYWHERE, 2);
        boolean[] due = {false, true, false, false, true, true, true, false, true};
        for (int i = 0; i < due.length; i++) {
            DUE.is("idle " + i, x.idle(0, i) ? 1 : 0, due[i] ? 1 : 0);
        }
        DUE.no("idle -1", x.idle(0, -1));
        DUE.no("idle 9", x.idle(0, 9));
        DUE.no("idle of HEAP -1", x.idle(-1, 1));
        DUE.no("idle of HEAP 2", x.idle(2, 1));
        DUE.no("idle of HEAP 1", x.idle(1, 1));
        x.rule(1, 3010, ANYWHERE, 0);
        DUE.yes("SURE of 10 can't be", x.idle(1, 0));
        x.sort(1, 0, 2);
        DUE.no("SURE of 10 can be", x.idle(1, 0));
        x.rule(1, 103000, ANYWHERE, 0);
        x.rule(1, 83000, ANYWHERE, 0);
        x.rule(1, 123000, ANYWHERE, 0);
        DUE.no("fewer ROLES", x.idle(1, 2));
        DUE.yes("more ROLES", x.idle(1, 3));
        AskTrust y = new AskTrust();
        y.rule(0, 3001, ANYWHERE, 0);
        y.rule(0, 3000, 10100, 0);
        y.rule(0, 1000, 10100, 2);
        DUE.no("just the least FACTS are left", y.idle(0, 1));
        DUE.yes("none are left", y.idle(0, 2));
    }

    private static void rulesQuarrel() {
        AskTrust x = new AskTrust();
        x.rule(0, 3000, ANYWHERE, 0);
        x.rule(0, 100200, 100504, 2);
        x.rule(0, 11300, 81214, 0);
        x.rule(0, 3000, 150544, 2);
        x.rule(0, 3000, 150200, 2);
        DUE.is("quarrel", x.quarrel(0, 0, 1), 10 * ROLE + 2 * 16 * 80 + 20);
        DUE.is("either way round", x.quarrel(0, 1, 0), 10 * ROLE + 2 * 16 * 80 + 20);
        DUE.is("also with one before", x.quarrel(0, 1, 2), 11 * ROLE + (2 * 16 + 3 * 4) * 80 + 3 * 20 + 10 + 1);
        DUE.is("they say the same", x.quarrel(0, 1, 3), -1);
        DUE.is("with itself", x.quarrel(0, 1, 1), -1);
        DUE.is("no KIND in common", x.quarrel(0, 2, 4), -1);
        DUE.is("WORTH 4", x.quarrel(0, 2, 3), ROLE + 3 * 4 * 80 + 3 * 20 + 10 + 4);
        for (int wrong : new int[] {-1, 5, Integer.MAX_VALUE, Integer.MIN_VALUE}) {
            DUE.is("none such", x.quarrel(0, wrong, 1), -1);
            DUE.is("none such", x.quarrel(0, 0, wrong), -1);
            DUE.is("no HEAP", x.quarrel(wrong, 0, 1), -1);
        }
        x.rule(1, 2200, ANYWHERE, 0);
        x.rule(1, 3020, ANYWHERE, 2);
        DUE.is("SURE of 20 can't be", x.quarrel(1, 0, 1), -1);
        x.sort(1, 20, 5);
        DUE.is("SURE of 20", x.quarrel(1, 0, 1), (16 * 2 + 3 * 4 + 3) * 80);
    }
}
