/** Part 2 of "Terms", and promises 7 to 11: each sentence that names a bound has a test of its own. */
final class HeapEdgeTest {
    private static final Due DUE = new Due("HeapEdgeTest");
    private static final int[] NO_ASKS = {-1, -1000, -10000, 4, 9, 994, 9994, 9999, 10000, 10003,
        Numbers.MOST_INT, Numbers.LEAST_INT};

    public static void main(String[] args) {
        heapsAre0And1();
        heapsHaveAtMost12();
        heapsAreEmptyAtFirst();
        theLastOfAFullHeapDecides();
        rulesAreInOrder();
        allRolesAreThere();
        theValueIsNotBelow();
        sort3AsksNoMark();
        sureIsNotBelow();
        placesAreAmong();
        kindsAreAmong();
        worthIsFromLeastToMost();
        whatOfARule();
        whatIsTakenApart();
        whereOfARule();
        saysOfARule();
        rulesGo();
        noneFits();
        stepUp();
        heap0IsInForceAtFirst();
        theWorseOfBoth();
        bothWithTheSame();
        bothMustBeAndOthers();
        noSuchAsk();
        whyOfNone();
        DUE.end();
    }

    private static int anybody(AskTrust x, int heap) {
        return x.rule(heap, Numbers.ANYBODY, Numbers.ANYWHERE, Numbers.LET);
    }

    private static int letting(AskTrust x, int roles, int sort, int value, int sure) {
        return x.rule(0, Numbers.what(roles, sort, value, sure), Numbers.ANYWHERE, Numbers.LET);
    }

    private static void heapsAre0And1() {
        DUE.sentence("NONE if that can't be, there is no such HEAP, or it has 12.");
        AskTrust x = new AskTrust();
        for (int heap : new int[] {-1, 2, Numbers.MOST_INT, Numbers.LEAST_INT}) {
            DUE.is("rule of HEAP " + heap, anybody(x, heap), Numbers.NONE);
        }
        DUE.is("RULES of HEAP 0", x.count(2), 0);
        DUE.is("RULES of HEAP 1", x.count(3), 0);
        DUE.is("rule of HEAP 1", anybody(x, 1), 1);
        DUE.is("rule of HEAP 1", anybody(x, 1), 2);
        DUE.is("rule of HEAP 0", anybody(x, 0), 1);
        DUE.is("RULES of HEAP 0", x.count(2), 1);
        DUE.is("RULES of HEAP 1", x.count(3), 2);
    }

    private static void heapsHaveAtMost12() {
        DUE.sentence("HEAPS 0 and 1 of RULES, at most 12 each, in order.");
        for (int heap = 0; heap <= 1; heap++) {
            AskTrust x = new AskTrust();
            for (int i = 1; i <= 12; i++) {
                DUE.is("rule " + i, anybody(x, heap), i);
            }
            DUE.is("rule 13", anybody(x, heap), Numbers.NONE);
            DUE.is("RULES", x.count(2 + heap), 12);
            DUE.is("RULES of the other", x.count(3 - heap), 0);
            DUE.is("rule of the other", anybody(x, 1 - heap), 1);
            DUE.yes("unrule 11", x.unrule(heap, 11));
            DUE.is("room again", anybody(x, heap), 12);
            DUE.is("and full again", anybody(x, heap), Numbers.NONE);
        }
    }

    private static void heapsAreEmptyAtFirst() {
        DUE.sentence("Nothing is told; no RULES; NOW is 0.");
        AskTrust x = new AskTrust();
        for (int heap = 0; heap <= 1; heap++) {
            DUE.is("RULES", x.count(2 + heap), 0);
            DUE.no("unrule of none", x.unrule(heap, 0));
            DUE.is("why by none", x.why(heap, 0), Numbers.NONE);
            DUE.no("idle of none", x.idle(heap, 0));
            DUE.is("quarrel of none", x.quarrel(heap, 0, 0), Numbers.NONE);
            DUE.is("a LAW on none", x.law(heap, Numbers.law(0, 0, 0, 0, 3)), Numbers.NONE);
        }
        DUE.is("ask by none", x.ask(0), Numbers.SHUT);
    }

    private static void theLastOfAFullHeapDecides() {
        DUE.sentence("The first one that FITS decides: LET (0) or SHUT (2); none: SHUT.");
        for (int says = 0; says <= 2; says += 2) {
            AskTrust x = new AskTrust();
            for (int i = 0; i < 11; i++) {
                x.rule(0, Numbers.what(8, 3, 0, 0), Numbers.ANYWHERE, 2 - says);
            }
            DUE.is("none of 11 fits", x.ask(0), Numbers.SHUT);
            DUE.is("why", x.why(0, 0), Numbers.NONE);
            DUE.is("the twelfth", x.rule(0, Numbers.ANYBODY, Numbers.ANYWHERE, says), 12);
            DUE.is("why", x.why(0, 0), 11);
            DUE.is("ask", x.ask(0), says);
            x.roles(0, 8);
            DUE.is("why by the first", x.why(0, 0), 0);
            DUE.is("ask", x.ask(0), 2 - says);
        }
    }

    private static void rulesAreInOrder() {
        DUE.sentence("The first one that FITS decides: LET (0) or SHUT (2); none: SHUT.");
        AskTrust x = new AskTrust();
        x.rule(0, Numbers.ANYBODY, Numbers.ANYWHERE, Numbers.LET);
        x.rule(0, Numbers.ANYBODY, Numbers.ANYWHERE, Numbers.SHUT);
        DUE.is("LET comes first", x.ask(0), Numbers.LET);
        x.unrule(0, 0);
        DUE.is("SHUT alone", x.ask(0), Numbers.SHUT);
        x.rule(0, Numbers.ANYBODY, Numbers.ANYWHERE, Numbers.LET);
        DUE.is("SHUT comes first", x.ask(0), Numbers.SHUT);
        DUE.is("why", x.why(0, 0), 0);
    }

    private static void allRolesAreThere() {
        DUE.sentence("A RULE FITS FACTS if all its ROLES are there");
        for (int asked = 0; asked <= 15; asked++) {
            AskTrust x = new AskTrust();
            letting(x, asked, 3, 0, 0);
            for (int roles = 0; roles <= 15; roles++) {
                x.roles(0, roles);
                boolean all = (asked & ~roles) == 0;
                DUE.is("why with " + roles + " for " + asked, x.why(0, 0), all ? 0 : Numbers.NONE);
            }
        }
    }

    private static void theValueIsNotBelow() {
        DUE.sentence("the value of the MARK of its sort isn't below its value");
        for (int sort = 0; sort <= 2; sort++) {
            for (int asked = 0; asked <= 3; asked++) {
                AskTrust x = new AskTrust();
                letting(x, 0, sort, asked, 0);
                DUE.is("why with none told", x.why(0, 0), asked == 0 ? 0 : Numbers.NONE);
                for (int value = 0; value <= 3; value++) {
                    x.mark(0, sort, value);
                    x.mark(0, (sort + 1) % 3, 3 - value);
                    x.mark(0, (sort + 2) % 3, 3 - value);
                    DUE.is("why with " + value + " for " + asked, x.why(0, 0), value >= asked ? 0 : Numbers.NONE);
                }
            }
        }
    }

    private static void sort3AsksNoMark() {
        DUE.sentence("(sort 3: no MARK is asked)");
        AskTrust x = new AskTrust();
        for (int value = 0; value <= 3; value++) {
            DUE.is("rule", letting(x, 0, 3, value, 0), 1);
            DUE.is("why with none told", x.why(0, 0), 0);
            x.unrule(0, 0);
        }
    }

    private static void sureIsNotBelow() {
        DUE.sentence("SURE isn't below its number");
        AskTrust x = new AskTrust();
        x.sort(0, 20, 9);
        x.mark(0, 0, 1);
        for (int sure : new int[] {0, 1, 8, 9, 10, 99}) {
            DUE.is("rule", letting(x, 0, 3, 0, sure), 1);
            DUE.is("why with SURE 9 for " + sure, x.why(0, 0), sure <= 9 ? 0 : Numbers.NONE);
            x.unrule(0, 0);
        }
        x.go(21);
        letting(x, 0, 3, 0, 1);
        DUE.is("why with SURE 0 for 1", x.why(0, 0), Numbers.NONE);
        letting(x, 0, 3, 0, 0);
        DUE.is("why with SURE 0 for 0", x.why(0, 0), 1);
    }

    private static void placesAreAmong() {
        DUE.sentence("PLACE and KIND are among its");
        AskTrust x = new AskTrust();
        for (int places = 0; places <= 15; places++) {
            DUE.is("rule", x.rule(1, Numbers.ANYBODY, Numbers.where(places, 15, 0, 4), Numbers.LET), 1);
            for (int place = 0; place <= 3; place++) {
                boolean among = (places >> place) % 2 == 1;
                DUE.is("why at " + place + " of " + places, x.why(1, place), among ? 0 : Numbers.NONE);
            }
            x.unrule(1, 0);
        }
    }

    private static void kindsAreAmong() {
        DUE.sentence("PLACE and KIND are among its");
        AskTrust x = new AskTrust();
        for (int kind = 0; kind <= 3; kind++) {
            x.thing(kind, kind, 0);
        }
        for (int kinds = 0; kinds <= 15; kinds++) {
            DUE.is("rule", x.rule(1, Numbers.ANYBODY, Numbers.where(15, kinds, 0, 4), Numbers.LET), 1);
            for (int kind = 0; kind <= 3; kind++) {
                boolean among = (kinds >> kind) % 2 == 1;
                DUE.is("why of " + kind + " of " + kinds, x.why(1, kind * 10), among ? 0 : Numbers.NONE);
            }
            x.unrule(1, 0);
        }
    }

    private static void worthIsFromLeastToMost() {
        DUE.sentence("and WORTH is from its least to its most");
        AskTrust x = new AskTrust();
        for (int worth = 0; worth <= 4; worth++) {
            x.thing(worth, 0, worth);
        }
        for (int least = 0; least <= 4; least++) {
            for (int most = least; most <= 4; most++) {
                DUE.is("rule", x.rule(1, Numbers.ANYBODY, Numbers.where(15, 15, least, most), Numbers.LET), 1);
                for (int worth = 0; worth <= 4; worth++) {
                    boolean among = least <= worth && worth <= most;
                    DUE.is("why of " + worth + " in " + least + most, x.why(1, worth * 10), among ? 0 : Numbers.NONE);
                }
                x.unrule(1, 0);
            }
        }
    }

    private static void whatOfARule() {
        DUE.sentence("What is ROLES * 10000 + sort * 1000 + value * 100 + SURE");
        AskTrust x = new AskTrust();
        int[] wrong = {Numbers.what(16, 0, 0, 0), Numbers.what(15, 4, 0, 0), Numbers.what(0, 4, 0, 0),
            Numbers.what(0, 9, 0, 0), Numbers.what(0, 0, 4, 0), Numbers.what(15, 3, 4, 0), Numbers.what(0, 0, 9, 99),
            -1, -99, -100, -1000, -10000, -150000, Numbers.MOST_INT, Numbers.LEAST_INT};
        for (int what : wrong) {
            DUE.is("rule " + what, x.rule(0, what, Numbers.ANYWHERE, Numbers.LET), Numbers.NONE);
            DUE.is("RULES", x.count(2), 0);
        }
        int[] right = {Numbers.what(0, 0, 0, 0), Numbers.what(15, 0, 0, 0), Numbers.what(0, 3, 0, 0),
            Numbers.what(0, 0, 3, 0), Numbers.what(0, 0, 0, 99), Numbers.what(15, 3, 3, 99)};
        for (int i = 0; i < right.length; i++) {
            DUE.is("rule " + right[i], x.rule(0, right[i], Numbers.ANYWHERE, Numbers.LET), i + 1);
        }
    }

    private static void whatIsTakenApart() {
        DUE.sentence("What is ROLES * 10000 + sort * 1000 + value * 100 + SURE");
        for (int roles = 0; roles <= 15; roles++) {
            for (int sort = 0; sort <= 2; sort++) {
                AskTrust x = new AskTrust();
                x.rule(0, Numbers.what(roles, sort, 0, 0), Numbers.ANYWHERE, Numbers.LET);
                x.rule(1, Numbers.what(roles, sort, 1, 1), Numbers.ANYWHERE, Numbers.LET);
                x.roles(0, roles);
                x.roles(1, 15 - roles);
                DUE.is("just its ROLES", x.why(0, 0), 0);
                DUE.is("the others", x.why(0, 1000), roles == 0 ? 0 : Numbers.NONE);
                x.mark(0, (sort + 1) % 3, 3);
                x.mark(0, (sort + 2) % 3, 3);
                DUE.is("MARKS of other sorts", x.why(1, 0), Numbers.NONE);
                x.mark(0, sort, 1);
                DUE.is("the MARK of its sort", x.why(1, 0), 0);
            }
        }
    }

    private static void whereOfARule() {
        DUE.sentence("where is PLACES (bits) * 10000 + KINDS (bits) * 100 + least * 10 + most WORTH");
        AskTrust x = new AskTrust();
        int[] wrong = {Numbers.where(16, 15, 0, 4), Numbers.where(16, 0, 0, 0), Numbers.where(15, 16, 0, 4),
            Numbers.where(0, 99, 0, 4), Numbers.where(15, 15, 0, 5), Numbers.where(15, 15, 0, 9),
            Numbers.where(15, 15, 5, 5), Numbers.where(15, 15, 5, 4), Numbers.where(15, 15, 9, 9),
            -1, -10, -100, -10000, -150000, Numbers.MOST_INT, Numbers.LEAST_INT};
        for (int where : wrong) {
            DUE.is("rule at " + where, x.rule(0, Numbers.ANYBODY, where, Numbers.LET), Numbers.NONE);
            DUE.is("RULES", x.count(2), 0);
        }
        for (int least = 1; least <= 4; least++) {
            int where = Numbers.where(15, 15, least, least - 1);
            DUE.is("least above most, " + where, x.rule(0, Numbers.ANYBODY, where, Numbers.LET), Numbers.NONE);
        }
        int[] right = {Numbers.where(0, 0, 0, 0), Numbers.where(15, 0, 0, 0), Numbers.where(0, 15, 0, 0),
            Numbers.where(15, 15, 0, 4), Numbers.where(15, 15, 4, 4), Numbers.where(15, 15, 0, 0)};
        for (int i = 0; i < right.length; i++) {
            DUE.is("rule at " + right[i], x.rule(0, Numbers.ANYBODY, right[i], Numbers.LET), i + 1);
        }
    }

    private static void saysOfARule() {
        DUE.sentence("says is 0 or 2.");
        AskTrust x = new AskTrust();
        for (int says : new int[] {-1, 1, 3, -2, 4, Numbers.MOST_INT, Numbers.LEAST_INT}) {
            DUE.is("rule says " + says, x.rule(0, Numbers.ANYBODY, Numbers.ANYWHERE, says), Numbers.NONE);
            DUE.is("RULES", x.count(2), 0);
        }
        DUE.is("rule says 0", x.rule(0, Numbers.ANYBODY, Numbers.ANYWHERE, 0), 1);
        DUE.is("rule says 2", x.rule(0, Numbers.ANYBODY, Numbers.ANYWHERE, 2), 2);
    }

    /** A HEAP of 12, RULE i of which asks for a SURE of 12 - i: so why tells which RULE it was at first. */
    private static AskTrust descending() {
        AskTrust x = new AskTrust();
        for (int i = 0; i < 12; i++) {
            letting(x, 0, 3, 0, 12 - i);
        }
        x.sort(0, 20, 4);
        x.sort(1, 20, 1);
        return x;
    }

    private static void surenessIs(AskTrust x, int sure) {
        x.mark(0, 0, sure / 4);
        x.mark(0, 1, sure % 4);
    }

    private static void rulesGo() {
        DUE.sentence("A RULE goes (those behind it come up): true; false if there is none such.");
        for (int gone : new int[] {0, 1, 6, 10, 11}) {
            AskTrust x = descending();
            for (int wrong : new int[] {-1, 12, Numbers.MOST_INT, Numbers.LEAST_INT}) {
                DUE.no("unrule " + wrong, x.unrule(0, wrong));
            }
            for (int heap : new int[] {-1, 1, 2, Numbers.MOST_INT, Numbers.LEAST_INT}) {
                DUE.no("unrule of HEAP " + heap, x.unrule(heap, gone));
            }
            DUE.is("RULES", x.count(2), 12);
            DUE.yes("unrule " + gone, x.unrule(0, gone));
            DUE.is("RULES", x.count(2), 11);
            DUE.no("unrule 11 of 11", x.unrule(0, 11));
            for (int i = 0; i < 12; i++) {
                surenessIs(x, 12 - i);
                // Who was judged by the one that went is judged by the one that was behind it, at its place.
                int due = i <= gone ? i : i - 1;
                DUE.is("why of what was RULE " + i, x.why(0, 0), due == 11 ? Numbers.NONE : due);
            }
        }
    }

    private static void noneFits() {
        DUE.sentence("none: SHUT.");
        AskTrust x = new AskTrust();
        DUE.is("an empty HEAP", x.ask(0), Numbers.SHUT);
        letting(x, 1, 3, 0, 0);
        DUE.is("one that doesn't fit", x.ask(0), Numbers.SHUT);
        x.unrule(0, 0);
        DUE.is("empty again", x.ask(0), Numbers.SHUT);
    }

    private static void stepUp() {
        DUE.sentence("STEP UP (1), if it is SHUT, but would be LET if the MARK of sort 2 had the value 3; else SHUT.");
        for (int asked = 0; asked <= 3; asked++) {
            AskTrust x = new AskTrust();
            letting(x, 0, 2, asked, 0);
            for (int value = 0; value <= 3; value++) {
                x.mark(0, 2, value);
                DUE.is("ask with " + value + " for " + asked, x.ask(0), value >= asked ? Numbers.LET : Numbers.STEP_UP);
            }
        }
        AskTrust x = new AskTrust();
        x.rule(0, Numbers.what(0, 2, 3, 0), Numbers.ANYWHERE, Numbers.SHUT);
        letting(x, 0, 2, 2, 0);
        for (int value = 0; value <= 3; value++) {
            x.mark(0, 2, value);
            DUE.is("value 3 is SHUT, ask with " + value, x.ask(0), value == 2 ? Numbers.LET : Numbers.SHUT);
        }
        AskTrust y = new AskTrust();
        y.sort(2, 20, 9);
        letting(y, 0, 3, 0, 27);
        DUE.is("SURE of 27 by the MARK", y.ask(0), Numbers.STEP_UP);
        y.unrule(0, 0);
        letting(y, 0, 3, 0, 28);
        DUE.is("SURE of 28 is more than the MARK", y.ask(0), Numbers.SHUT);
        y.mark(0, 1, 1);
        DUE.is("with another MARK", y.ask(0), Numbers.STEP_UP);
        for (int sort = 0; sort <= 1; sort++) {
            AskTrust z = new AskTrust();
            letting(z, 0, sort, 1, 0);
            DUE.is("a MARK of sort " + sort + " lacks", z.ask(0), Numbers.SHUT);
        }
    }

    private static void heap0IsInForceAtFirst() {
        DUE.sentence("The HEAP in force is 0 at first.");
        AskTrust x = new AskTrust();
        DUE.is("the HEAP in force", x.count(1), 0);
        anybody(x, 1);
        DUE.is("HEAP 1 doesn't decide", x.ask(0), Numbers.SHUT);
        DUE.is("HEAP 1 doesn't decide for JUDGES", x.judged(0, 0), Numbers.SHUT);
        anybody(x, 0);
        DUE.is("HEAP 0 decides", x.ask(0), Numbers.LET);
    }

    private static void theWorseOfBoth() {
        DUE.sentence("the worse ANSWER of both (SHUT is worse than STEP UP, that than LET)");
        AskTrust x = new AskTrust();
        letting(x, 1, 3, 0, 0);
        letting(x, 2, 2, 3, 0);
        // By number of the ANSWER: two PERSONS for each.
        for (int answer = 0; answer <= 2; answer++) {
            x.roles(answer, 1 << answer);
            x.roles(answer + 7, 1 << answer);
        }
        for (int mine = 0; mine <= 2; mine++) {
            for (int others = 0; others <= 2; others++) {
                int due = Math.max(mine, others);
                DUE.is(mine + " for " + others, x.behalf(Numbers.who(mine, 3, 4, 1), others + 7), due);
                DUE.is(mine + " for " + others, x.behalf(Numbers.who(mine + 7, 3, 4, 1), others), due);
            }
        }
    }

    private static void bothWithTheSame() {
        DUE.sentence("each with the same MACHINE, THING and PLACE");
        AskTrust x = new AskTrust();
        x.rule(0, Numbers.what(0, 0, 3, 0), Numbers.where(8, 8, 4, 4), Numbers.LET);
        x.mark(9, 0, 3);
        x.thing(9, 3, 4);
        for (int person = 0; person <= 8; person++) {
            DUE.is("for " + person, x.behalf(Numbers.who(9, 9, 9, 3), person), Numbers.LET);
            DUE.is("by " + person, x.behalf(Numbers.who(person, 9, 9, 3), 9), Numbers.LET);
        }
        DUE.is("another MACHINE", x.behalf(Numbers.who(9, 8, 9, 3), 0), Numbers.SHUT);
        DUE.is("another THING", x.behalf(Numbers.who(9, 9, 8, 3), 0), Numbers.SHUT);
        DUE.is("another PLACE", x.behalf(Numbers.who(9, 9, 9, 2), 0), Numbers.SHUT);
    }

    private static void bothMustBeAndOthers() {
        DUE.sentence("ON BEHALF of a PERSON, likewise (both must be, and others).");
        AskTrust x = new AskTrust();
        anybody(x, 0);
        for (int person : new int[] {-1, 10, Numbers.MOST_INT, Numbers.LEAST_INT}) {
            DUE.is("behalf of " + person, x.behalf(0, person), Numbers.NONE);
            DUE.is("behalf of " + person, x.behalf(9993, person), Numbers.NONE);
        }
        for (int person = 0; person <= 9; person++) {
            DUE.is("behalf of oneself", x.behalf(Numbers.who(person, 0, 0, 0), person), Numbers.NONE);
            DUE.is("behalf of oneself", x.behalf(Numbers.who(person, 9, 9, 3), person), Numbers.NONE);
        }
        for (int who : NO_ASKS) {
            DUE.is("behalf by " + who, x.behalf(who, 1), Numbers.NONE);
        }
        DUE.is("nothing is logged", x.count(4), 0);
        DUE.is("0 for 9", x.behalf(0, 9), Numbers.LET);
        DUE.is("9 for 0", x.behalf(9993, 0), Numbers.LET);
        DUE.is("PERSON 1 with MACHINE 2 for 2", x.behalf(Numbers.who(1, 2, 3, 0), 2), Numbers.LET);
        DUE.is("logged", x.count(4), 3);
    }

    private static void noSuchAsk() {
        DUE.sentence("NONE if there is none such, or 300 came.");
        AskTrust x = new AskTrust();
        anybody(x, 0);
        for (int who : NO_ASKS) {
            DUE.is("ask " + who, x.ask(who), Numbers.NONE);
        }
        DUE.is("nothing is logged", x.count(4), 0);
        DUE.is("nothing was LET", x.count(5), 0);
        DUE.is("the least ASK", x.ask(0), Numbers.LET);
        DUE.is("the greatest ASK", x.ask(9993), Numbers.LET);
        DUE.is("logged", x.count(4), 2);
    }

    private static void whyOfNone() {
        DUE.sentence("Which RULE of a HEAP decides for an ASK NOW; NONE if none, or there is none such.");
        AskTrust x = new AskTrust();
        DUE.is("no RULE", x.why(0, 0), Numbers.NONE);
        anybody(x, 0);
        anybody(x, 1);
        for (int heap = 0; heap <= 1; heap++) {
            DUE.is("the least ASK", x.why(heap, 0), 0);
            DUE.is("the greatest ASK", x.why(heap, 9993), 0);
            for (int who : NO_ASKS) {
                DUE.is("why of " + who, x.why(heap, who), Numbers.NONE);
            }
        }
        for (int heap : new int[] {-1, 2, Numbers.MOST_INT, Numbers.LEAST_INT}) {
            DUE.is("why by HEAP " + heap, x.why(heap, 0), Numbers.NONE);
        }
    }
}
