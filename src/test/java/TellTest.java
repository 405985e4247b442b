/** Promises 3 (roles), 4 (mark), 5 (thing), 6 (sort) and 12 (facts). */
final class TellTest {
    private static final Due DUE = new Due("TellTest");
    private static final int ROLE = 4 * 4 * 4 * 4 * 4 * 5;

    public static void main(String[] args) {
        rolesAreTold();
        marksAreTold();
        marksAge();
        sortsAreAlikeAtFirst();
        thingsAreTold();
        sortsAreTold();
        factsAreCoded();
        DUE.end();
    }

    private static void rolesAreTold() {
        AskTrust x = new AskTrust();
        DUE.yes("roles 9 15", x.roles(9, 15));
        DUE.yes("roles 0 6", x.roles(0, 6));
        DUE.is("facts of 9", x.facts(9000), 15 * ROLE);
        DUE.is("facts of 0", x.facts(0), 6 * ROLE);
        DUE.no("roles -1", x.roles(-1, 1));
        DUE.no("roles 10", x.roles(10, 1));
        DUE.no("roles of -1", x.roles(0, -1));
        DUE.no("roles of 16", x.roles(0, 16));
        DUE.is("facts after what was refused", x.facts(0), 6 * ROLE);
        DUE.yes("roles 0 0", x.roles(0, 0));
        DUE.is("facts of 0", x.facts(0), 0);
    }

    private static void marksAreTold() {
        AskTrust x = new AskTrust();
        DUE.yes("mark of machine 9", x.mark(9, 0, 3));
        DUE.yes("mark of machine 9", x.mark(9, 1, 2));
        DUE.yes("mark of person 9", x.mark(9, 2, 1));
        DUE.is("facts of both 9", x.facts(9900), (3 * 16 + 2 * 4 + 1) * 80);
        DUE.is("facts of machine 9", x.facts(900), (3 * 16 + 2 * 4) * 80);
        DUE.is("facts of person 9", x.facts(9000), 80);
        DUE.no("mark -1", x.mark(-1, 0, 1));
        DUE.no("mark 10", x.mark(10, 2, 1));
        DUE.no("mark sort -1", x.mark(9, -1, 1));
        DUE.no("mark sort 3", x.mark(9, 3, 1));
        DUE.no("mark value -1", x.mark(9, 0, -1));
        DUE.no("mark value 4", x.mark(9, 0, 4));
        DUE.is("facts after what was refused", x.facts(9900), (3 * 16 + 2 * 4 + 1) * 80);
        DUE.yes("mark of value 0", x.mark(9, 0, 0));
        DUE.is("facts", x.facts(9900), (2 * 4 + 1) * 80);
    }

    private static void marksAge() {
        AskTrust x = new AskTrust();
        x.go(7);
        x.mark(1, 0, 1);
        x.mark(1, 1, 2);
        x.mark(1, 2, 3);
        x.go(20);
        DUE.is("all are FRESH yet", x.facts(1100), (16 + 2 * 4 + 3) * 80);
        x.mark(1, 1, 1);
        x.go(1);
        DUE.is("one was told anew", x.facts(1100), 4 * 80);
        x.sort(2, 21, 1);
        DUE.is("a longer LIMIT makes it FRESH again", x.facts(1100), (4 + 3) * 80);
        x.sort(1, 0, 1);
        DUE.is("a shorter LIMIT makes it old", x.facts(1100), 3 * 80);
        x.mark(1, 1, 2);
        DUE.is("a LIMIT of 0 lasts for its TICK", x.facts(1100), (2 * 4 + 3) * 80);
        x.go(1);
        DUE.is("but not longer", x.facts(1100), 0);
    }

    private static void sortsAreAlikeAtFirst() {
        for (int sort = 0; sort < 3; sort++) {
            AskTrust x = new AskTrust();
            x.rule(0, 3002, 151504, 0);
            x.rule(0, 3001, 151504, 0);
            x.mark(0, sort, 1);
            DUE.is("the WEIGHT is 1", x.why(0, 0), 1);
            x.go(20);
            DUE.is("the LIMIT is 20", x.why(0, 0), 1);
            x.go(1);
            DUE.is("the LIMIT is 20", x.why(0, 0), -1);
        }
    }

    private static void thingsAreTold() {
        AskTrust x = new AskTrust();
        DUE.yes("thing 9", x.thing(9, 3, 4));
        DUE.yes("thing 0", x.thing(0, 1, 2));
        DUE.is("facts of 9", x.facts(90), 19);
        DUE.is("facts of 0", x.facts(0), 7);
        DUE.no("thing -1", x.thing(-1, 0, 0));
        DUE.no("thing 10", x.thing(10, 0, 0));
        DUE.no("kind -1", x.thing(0, -1, 0));
        DUE.no("kind 4", x.thing(0, 4, 0));
        DUE.no("worth -1", x.thing(0, 0, -1));
        DUE.no("worth 5", x.thing(0, 0, 5));
        DUE.is("facts after what was refused", x.facts(0), 7);
    }

    private static void sortsAreTold() {
        AskTrust x = new AskTrust();
        x.rule(0, 3000 + 27 + 18, 151504, 0);
        x.mark(0, 0, 3);
        x.mark(0, 1, 2);
        DUE.yes("sort 0", x.sort(0, 500, 9));
        DUE.is("SURE is 29", x.why(0, 0), -1);
        DUE.yes("sort 1", x.sort(1, 500, 9));
        DUE.is("SURE is 45", x.why(0, 0), 0);
        DUE.no("sort -1", x.sort(-1, 0, 0));
        DUE.no("sort 3", x.sort(3, 0, 0));
        DUE.no("limit -1", x.sort(0, -1, 0));
        DUE.no("limit 501", x.sort(0, 501, 0));
        DUE.no("weight -1", x.sort(0, 0, -1));
        DUE.no("weight 10", x.sort(0, 0, 10));
        DUE.is("SURE after what was refused", x.why(0, 0), 0);
        x.go(200);
        x.go(200);
        x.go(100);
        DUE.is("500 TICKS later", x.why(0, 0), 0);
        x.go(1);
        DUE.is("501 TICKS later", x.facts(0), 0);
        DUE.yes("least LIMIT and WEIGHT", x.sort(0, 0, 0));
    }

    private static void factsAreCoded() {
        AskTrust x = new AskTrust();
        x.roles(9, 15);
        x.mark(8, 0, 3);
        x.mark(8, 1, 3);
        x.mark(9, 2, 3);
        x.thing(7, 3, 4);
        DUE.is("the greatest code", x.facts(9873), 81919);
        DUE.is("a lesser place", x.facts(9871), 81919 - 40);
        DUE.is("place 4", x.facts(9874), -1);
        DUE.is("place 9", x.facts(9879), -1);
        DUE.is("-1", x.facts(-1), -1);
        DUE.is("-10", x.facts(-10), -1);
        DUE.is("10000", x.facts(10000), -1);
        DUE.is("most", x.facts(Integer.MAX_VALUE), -1);
        DUE.is("least", x.facts(Integer.MIN_VALUE), -1);
    }
}
