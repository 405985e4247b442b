/** "Terms" up to part 2, and promises 1 to 6 and 12: each sentence that names a bound has a test of its own. */
final class TermsEdgeTest {
    private static final Due DUE = new Due("TermsEdgeTest");

    public static void main(String[] args) {
        nowIs0AtFirst();
        goTakes0To200();
        nowIs5000AtMost();
        personsAre0To9();
        rolesAreBits0To3();
        rolesAre0AtFirst();
        marksAreOfMachinesAndPersons();
        sortsAre0To2();
        valuesAre0To3();
        marksAreFreshUpToTheLimit();
        theLimitIs20AtFirst();
        limitsAre0To500();
        whatNeverWasToldIs0();
        thingsAre0To9();
        kindsAre0To3();
        worthsAre0To4();
        thingsAre0AtFirst();
        placesAre0To3();
        weightsAre0To9();
        theWeightIs1AtFirst();
        codesAre0To81919();
        factsOfNoAsk();
        DUE.end();
    }

    private static void nowIs0AtFirst() {
        DUE.sentence("Nothing is told; no RULES; NOW is 0.");
        AskTrust x = new AskTrust();
        for (int what = 0; what <= 6; what++) {
            DUE.is("count " + what, x.count(what), 0);
        }
        for (int judge = 0; judge <= 3; judge++) {
            DUE.is("keeps " + judge, x.keeps(judge), 0);
        }
        DUE.is("log", x.log(0, 0), Numbers.NONE);
        x.ask(0);
        DUE.is("NOW that is logged", x.log(0, 0), 0);
    }

    private static void goTakes0To200() {
        DUE.sentence("NOW is n TICKS later (0 .. 200; 5000 at most): NOW; NONE for another n.");
        AskTrust x = new AskTrust();
        DUE.is("go 0", x.go(0), 0);
        DUE.is("go 1", x.go(1), 1);
        DUE.is("go 199", x.go(199), 200);
        DUE.is("go 200", x.go(200), 400);
        for (int n : new int[] {201, -1, -200, Numbers.MOST_INT, Numbers.LEAST_INT}) {
            DUE.is("go " + n, x.go(n), Numbers.NONE);
            DUE.is("NOW after go " + n, x.count(0), 400);
        }
    }

    private static void nowIs5000AtMost() {
        DUE.sentence("TICKS are 0 .. 5000; NOW is one (0 at first).");
        AskTrust x = new AskTrust();
        Numbers.pass(x, 4998);
        DUE.is("go to 4999", x.go(1), 4999);
        DUE.is("go to the last", x.go(1), 5000);
        DUE.is("go 0 at the last", x.go(0), 5000);
        DUE.is("go 1 at the last", x.go(1), 5000);
        DUE.is("go 200 at the last", x.go(200), 5000);
        DUE.is("go 201 at the last", x.go(201), Numbers.NONE);
        DUE.is("go -1 at the last", x.go(-1), Numbers.NONE);
        DUE.is("NOW", x.count(0), 5000);
        AskTrust y = new AskTrust();
        Numbers.pass(y, 4999);
        DUE.is("go 2 from 4999", y.go(2), 5000);
        AskTrust z = new AskTrust();
        Numbers.pass(z, 4801);
        DUE.is("go 200 from 4801", z.go(200), 5000);
        DUE.is("NOW", z.count(0), 5000);
    }

    private static void personsAre0To9() {
        DUE.sentence("A PERSON's ROLES: true; false if there is none such, or they can't be.");
        AskTrust x = new AskTrust();
        for (int person = 0; person <= 9; person++) {
            DUE.yes("roles of " + person, x.roles(person, person + 1));
        }
        for (int person : new int[] {-1, 10, Numbers.MOST_INT, Numbers.LEAST_INT}) {
            DUE.no("roles of " + person, x.roles(person, 15));
        }
        for (int person = 0; person <= 9; person++) {
            DUE.is("facts of " + person, x.facts(Numbers.who(person, 0, 0, 0)), Numbers.code(person + 1, 0, 0, 0, 0, 0, 0));
        }
    }

    private static void rolesAreBits0To3() {
        DUE.sentence("PERSONS 0 .. 9 have ROLES (bits 0 .. 3; 0 at first)");
        AskTrust x = new AskTrust();
        for (int roles = 15; roles >= 0; roles--) {
            DUE.yes("roles " + roles, x.roles(9, roles));
            DUE.is("facts", x.facts(9000), Numbers.code(roles, 0, 0, 0, 0, 0, 0));
        }
        x.roles(9, 5);
        for (int roles : new int[] {-1, 16, -16, Numbers.MOST_INT, Numbers.LEAST_INT}) {
            DUE.no("roles " + roles, x.roles(9, roles));
            DUE.is("facts", x.facts(9000), Numbers.code(5, 0, 0, 0, 0, 0, 0));
        }
    }

    private static void rolesAre0AtFirst() {
        DUE.sentence("PERSONS 0 .. 9 have ROLES (bits 0 .. 3; 0 at first)");
        AskTrust x = new AskTrust();
        for (int person = 0; person <= 9; person++) {
            DUE.is("facts of " + person, x.facts(Numbers.who(person, 0, 0, 0)), 0);
        }
    }

    private static void marksAreOfMachinesAndPersons() {
        DUE.sentence("A MARK is told, of a MACHINE (sorts 0, 1) or PERSON (2): true; false if there is none such");
        AskTrust x = new AskTrust();
        for (int whose = 0; whose <= 9; whose++) {
            DUE.yes("mark 0 of " + whose, x.mark(whose, 0, 1));
            DUE.yes("mark 1 of " + whose, x.mark(whose, 1, 2));
            DUE.yes("mark 2 of " + whose, x.mark(whose, 2, 3));
        }
        for (int whose : new int[] {-1, 10, Numbers.MOST_INT, Numbers.LEAST_INT}) {
            for (int sort = 0; sort <= 2; sort++) {
                DUE.no("mark " + sort + " of " + whose, x.mark(whose, sort, 0));
            }
        }
        for (int whose = 0; whose <= 9; whose++) {
            DUE.is("facts of both", x.facts(Numbers.who(whose, 9 - whose, 0, 0)), Numbers.code(0, 1, 2, 3, 0, 0, 0));
        }
        AskTrust y = new AskTrust();
        y.mark(0, 0, 1);
        y.mark(0, 1, 2);
        y.mark(9, 2, 3);
        DUE.is("MACHINE 0 has no MARK of sort 2", y.facts(Numbers.who(0, 0, 0, 0)), Numbers.code(0, 1, 2, 0, 0, 0, 0));
        DUE.is("PERSON 9 has no MARKS of sorts 0, 1", y.facts(Numbers.who(9, 9, 0, 0)), Numbers.code(0, 0, 0, 3, 0, 0, 0));
        DUE.is("MACHINE 0, PERSON 9", y.facts(Numbers.who(9, 0, 0, 0)), Numbers.code(0, 1, 2, 3, 0, 0, 0));
    }

    private static void sortsAre0To2() {
        DUE.sentence("false if there is none such, no such sort, or value.");
        AskTrust x = new AskTrust();
        for (int sort : new int[] {-1, 3, Numbers.MOST_INT, Numbers.LEAST_INT}) {
            DUE.no("mark of sort " + sort, x.mark(0, sort, 3));
            DUE.no("sort " + sort, x.sort(sort, 500, 9));
            DUE.is("facts", x.facts(0), 0);
        }
    }

    private static void valuesAre0To3() {
        DUE.sentence("A MARK is told with a value (0 .. 3)");
        for (int sort = 0; sort <= 2; sort++) {
            AskTrust x = new AskTrust();
            int one = sort == 0 ? Numbers.code(0, 1, 0, 0, 0, 0, 0)
                : sort == 1 ? Numbers.code(0, 0, 1, 0, 0, 0, 0) : Numbers.code(0, 0, 0, 1, 0, 0, 0);
            for (int value = 3; value >= 0; value--) {
                DUE.yes("mark " + sort + " " + value, x.mark(0, sort, value));
                DUE.is("facts", x.facts(0), value * one);
            }
            x.mark(0, sort, 2);
            for (int value : new int[] {-1, 4, Numbers.MOST_INT, Numbers.LEAST_INT}) {
                DUE.no("mark " + sort + " " + value, x.mark(0, sort, value));
                DUE.is("facts", x.facts(0), 2 * one);
            }
        }
    }

    private static void fresh(AskTrust x, int sort, int limit) {
        x.mark(0, sort, 1);
        int told = x.facts(0);
        Numbers.pass(x, limit);
        DUE.is("facts " + limit + " TICKS later, sort " + sort, x.facts(0), told);
        x.go(1);
        DUE.is("facts " + limit + " + 1 TICKS later, sort " + sort, x.facts(0), 0);
        x.mark(0, sort, 1);
        DUE.is("told anew", x.facts(0), told);
    }

    private static void marksAreFreshUpToTheLimit() {
        DUE.sentence("it is FRESH while NOW less the TICK at which it was told isn't above its sort's LIMIT");
        for (int sort = 0; sort <= 2; sort++) {
            for (int limit : new int[] {0, 1, 2, 19, 499, 500}) {
                for (int begin : new int[] {0, 13}) {
                    AskTrust x = new AskTrust();
                    x.sort(sort, limit, 1);
                    x.go(begin);
                    fresh(x, sort, limit);
                }
            }
        }
    }

    private static void theLimitIs20AtFirst() {
        DUE.sentence("its sort's LIMIT (0 .. 500; 20 at first)");
        for (int sort = 0; sort <= 2; sort++) {
            fresh(new AskTrust(), sort, 20);
        }
    }

    private static void limitsAre0To500() {
        DUE.sentence("LIMIT and WEIGHT of a sort: true; false if there is none such, or they can't be.");
        for (int sort = 0; sort <= 2; sort++) {
            AskTrust x = new AskTrust();
            DUE.yes("limit 0", x.sort(sort, 0, 1));
            DUE.yes("limit 500", x.sort(sort, 500, 1));
            DUE.yes("limit 7", x.sort(sort, 7, 1));
            for (int limit : new int[] {-1, 501, Numbers.MOST_INT, Numbers.LEAST_INT}) {
                DUE.no("limit " + limit, x.sort(sort, limit, 1));
            }
            fresh(x, sort, 7);
        }
    }

    private static void whatNeverWasToldIs0() {
        DUE.sentence("else, or if it never was told, its value is 0");
        AskTrust x = new AskTrust();
        for (int sort = 0; sort <= 2; sort++) {
            x.sort(sort, 500, 9);
        }
        DUE.is("facts at 0", x.facts(9990), 0);
        Numbers.pass(x, 500);
        DUE.is("facts at 500", x.facts(9990), 0);
        x.go(1);
        DUE.is("facts at 501", x.facts(9990), 0);
        AskTrust y = new AskTrust();
        y.mark(9, 2, 3);
        y.mark(9, 2, 0);
        DUE.is("the later one counts", y.facts(9000), 0);
    }

    private static void thingsAre0To9() {
        DUE.sentence("A THING: true; false if there is none such, or KIND or WORTH can't be.");
        AskTrust x = new AskTrust();
        for (int thing = 0; thing <= 9; thing++) {
            DUE.yes("thing " + thing, x.thing(thing, thing % 4, thing % 5));
        }
        for (int thing : new int[] {-1, 10, Numbers.MOST_INT, Numbers.LEAST_INT}) {
            DUE.no("thing " + thing, x.thing(thing, 3, 4));
        }
        for (int thing = 0; thing <= 9; thing++) {
            DUE.is("facts of " + thing, x.facts(thing * 10), Numbers.code(0, 0, 0, 0, 0, thing % 4, thing % 5));
        }
    }

    private static void kindsAre0To3() {
        DUE.sentence("THINGS 0 .. 9 have a KIND (0 .. 3)");
        AskTrust x = new AskTrust();
        for (int kind = 3; kind >= 0; kind--) {
            DUE.yes("kind " + kind, x.thing(9, kind, 1));
            DUE.is("facts", x.facts(90), Numbers.code(0, 0, 0, 0, 0, kind, 1));
        }
        for (int kind : new int[] {-1, 4, Numbers.MOST_INT, Numbers.LEAST_INT}) {
            DUE.no("kind " + kind, x.thing(9, kind, 3));
            DUE.is("facts", x.facts(90), Numbers.code(0, 0, 0, 0, 0, 0, 1));
        }
    }

    private static void worthsAre0To4() {
        DUE.sentence("and a WORTH (0 .. 4)");
        AskTrust x = new AskTrust();
        for (int worth = 4; worth >= 0; worth--) {
            DUE.yes("worth " + worth, x.thing(9, 1, worth));
            DUE.is("facts", x.facts(90), Numbers.code(0, 0, 0, 0, 0, 1, worth));
        }
        for (int worth : new int[] {-1, 5, Numbers.MOST_INT, Numbers.LEAST_INT}) {
            DUE.no("worth " + worth, x.thing(9, 3, worth));
            DUE.is("facts", x.facts(90), Numbers.code(0, 0, 0, 0, 0, 1, 0));
        }
    }

    private static void thingsAre0AtFirst() {
        DUE.sentence("THINGS 0 .. 9 have a KIND (0 .. 3) and a WORTH (0 .. 4), 0 at first.");
        AskTrust x = new AskTrust();
        for (int thing = 0; thing <= 9; thing++) {
            DUE.is("facts of " + thing, x.facts(thing * 10), 0);
        }
    }

    private static void placesAre0To3() {
        DUE.sentence("PLACES are 0 .. 3.");
        AskTrust x = new AskTrust();
        for (int place = 0; place <= 3; place++) {
            DUE.is("facts at " + place, x.facts(place), Numbers.code(0, 0, 0, 0, place, 0, 0));
            DUE.is("facts at " + place, x.facts(9990 + place), Numbers.code(0, 0, 0, 0, place, 0, 0));
        }
        for (int place = 4; place <= 9; place++) {
            DUE.is("facts at " + place, x.facts(place), Numbers.NONE);
            DUE.is("facts at " + place, x.facts(9990 + place), Numbers.NONE);
        }
    }

    /** One MARK of value 3 alone, so that SURE is three times the WEIGHT. */
    private static void sureIs3Times(AskTrust x, int sort, int weight) {
        x.mark(0, sort, 3);
        x.rule(0, Numbers.what(0, 3, 0, 3 * weight + 1), Numbers.ANYWHERE, Numbers.LET);
        x.rule(0, Numbers.what(0, 3, 0, 3 * weight), Numbers.ANYWHERE, Numbers.LET);
        DUE.is("why with WEIGHT " + weight + " of " + sort, x.why(0, 0), 1);
    }

    private static void weightsAre0To9() {
        DUE.sentence("each times its sort's WEIGHT (0 .. 9; 1 at first)");
        for (int sort = 0; sort <= 2; sort++) {
            for (int weight = 0; weight <= 9; weight++) {
                AskTrust x = new AskTrust();
                DUE.yes("weight " + weight, x.sort(sort, 20, weight));
                for (int wrong : new int[] {-1, 10, Numbers.MOST_INT, Numbers.LEAST_INT}) {
                    DUE.no("weight " + wrong, x.sort(sort, 20, wrong));
                }
                sureIs3Times(x, sort, weight);
            }
        }
        AskTrust x = new AskTrust();
        for (int sort = 0; sort <= 2; sort++) {
            x.sort(sort, 20, 9);
            x.mark(0, sort, 3);
        }
        x.rule(0, Numbers.what(0, 3, 0, 82), Numbers.ANYWHERE, Numbers.LET);
        x.rule(0, Numbers.what(0, 3, 0, 81), Numbers.ANYWHERE, Numbers.LET);
        DUE.is("the most SURE is 81", x.why(0, 0), 1);
    }

    private static void theWeightIs1AtFirst() {
        DUE.sentence("each times its sort's WEIGHT (0 .. 9; 1 at first)");
        for (int sort = 0; sort <= 2; sort++) {
            sureIs3Times(new AskTrust(), sort, 1);
        }
    }

    private static void codesAre0To81919() {
        DUE.sentence("((((((ROLES * 4 + first) * 4 + second) * 4 + third) * 4 + PLACE) * 4 + KIND) * 5 + WORTH)");
        AskTrust x = new AskTrust();
        DUE.is("the least code", x.facts(0), 0);
        x.thing(9, 0, 4);
        DUE.is("WORTH", x.facts(90), 4);
        x.thing(9, 3, 0);
        DUE.is("KIND", x.facts(90), 15);
        DUE.is("PLACE", x.facts(3), 60);
        x.mark(9, 2, 3);
        DUE.is("third", x.facts(9000), 240);
        x.mark(9, 1, 3);
        DUE.is("second", x.facts(900), 960);
        x.mark(8, 0, 3);
        DUE.is("first", x.facts(800), 3840);
        x.roles(8, 15);
        DUE.is("ROLES", x.facts(8000), 76800);
        x.mark(9, 0, 3);
        x.roles(9, 15);
        x.thing(9, 3, 4);
        DUE.is("the greatest code", x.facts(9993), 81919);
    }

    private static void factsOfNoAsk() {
        DUE.sentence("The code of FACTS of an ASK NOW; NONE if there is none such.");
        AskTrust x = new AskTrust();
        DUE.is("facts of 0", x.facts(0), 0);
        DUE.is("facts of 9993", x.facts(9993), 60);
        for (int who : new int[] {-1, -1000, -10000, 4, 994, 9994, 9999, 10000, 10003, Numbers.MOST_INT, Numbers.LEAST_INT}) {
            DUE.is("facts of " + who, x.facts(who), Numbers.NONE);
        }
    }
}
