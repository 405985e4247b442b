/** Part 4 of "Terms" up to the log, and promises 16 to 18: each sentence that names a bound has a test of its own. */
final class ProofEdgeTest {
    private static final Due DUE = new Due("ProofEdgeTest");
    private static final int[] NO_HEAPS = {-1, 2, Numbers.MOST_INT, Numbers.LEAST_INT};

    public static void main(String[] args) {
        theWorldHasAllCorners();
        whatOfALaw();
        whatIsTakenApart();
        noSuchHeap();
        worthNotBelow();
        justThatKind();
        theRoleIsNotThere();
        theMarkHasLess();
        roleOrMark();
        neitherIsAsked();
        theLeastCode();
        justLetBreaks();
        lawsOnAnEmptyAndAFullHeap();
        idleIfItDecidesForNone();
        idleByOneFactMore();
        idleOfNone();
        quarrelByOneFact();
        quarrelByNone();
        quarrelIfTheySayOtherwise();
        quarrelOfNoneSuch();
        DUE.end();
    }

    private static AskTrust lettingAll() {
        AskTrust x = new AskTrust();
        for (int heap = 0; heap <= 1; heap++) {
            x.rule(heap, Numbers.ANYBODY, Numbers.ANYWHERE, Numbers.LET);
        }
        return x;
    }

    /** Whether two RULES that say otherwise meet in these FACTS, and in none of a lesser code. */
    private static void corner(int roles, int first, int second, int third, int place, int kind, int worth) {
        AskTrust x = new AskTrust();
        // SURE is the third value alone.
        x.sort(0, 20, 0);
        x.sort(1, 20, 0);
        x.rule(0, Numbers.what(roles, 0, first, third), Numbers.where(1 << place, 15, worth, worth), Numbers.LET);
        x.rule(0, Numbers.what(0, 1, second, 0), Numbers.where(15, 1 << kind, 0, 4), Numbers.SHUT);
        int code = Numbers.code(roles, first, second, third, place, kind, worth);
        DUE.is("quarrel in the corner " + code, x.quarrel(0, 0, 1), code);
    }

    private static void theWorldHasAllCorners() {
        DUE.sentence("WORLD: all FACTS that can be: ROLES 0 .. 15, three values 0 .. 3, PLACE, KIND, WORTH.");
        for (int bits = 0; bits < 128; bits++) {
            corner(bits % 2 * 15, bits / 2 % 2 * 3, bits / 4 % 2 * 3, bits / 8 % 2 * 3,
                bits / 16 % 2 * 3, bits / 32 % 2 * 3, bits / 64 * 4);
        }
    }

    private static void whatOfALaw() {
        DUE.sentence("-2 if that can't be, or there is no such HEAP.");
        AskTrust x = lettingAll();
        int[] wrong = {Numbers.law(4, 0, 0, 0, 0), Numbers.law(3, 5, 0, 0, 0), Numbers.law(0, 5, 0, 0, 0),
            Numbers.law(0, 9, 4, 3, 3), Numbers.law(0, 0, 5, 0, 0), Numbers.law(3, 4, 5, 3, 3), Numbers.law(0, 0, 9, 0, 0),
            Numbers.law(0, 0, 0, 4, 0), Numbers.law(3, 4, 4, 4, 0), Numbers.law(0, 0, 0, 9, 0), Numbers.law(0, 0, 0, 0, 4),
            Numbers.law(0, 0, 0, 3, 4), Numbers.law(3, 4, 4, 3, 4), Numbers.law(0, 0, 0, 0, 9),
            -1, -10, -100, -1000, -10000, -34433, Numbers.MOST_INT, Numbers.LEAST_INT};
        for (int what : wrong) {
            DUE.is("law " + what, x.law(0, what), -2);
            DUE.is("law " + what, x.law(1, what), -2);
        }
        DUE.is("the least", x.law(0, Numbers.law(0, 0, 0, 0, 0)), 0);
        for (int kind = 0; kind <= 3; kind++) {
            DUE.is("KIND " + kind, x.law(0, Numbers.law(kind, 0, 0, 3, 0)), kind * 5);
        }
        for (int worth = 0; worth <= 4; worth++) {
            DUE.is("WORTH " + worth, x.law(0, Numbers.law(0, worth, 0, 3, 0)), worth);
        }
        for (int role = 0; role <= 4; role++) {
            DUE.is("ROLE " + role, x.law(0, Numbers.law(0, 0, role, 3, 0)), role < 4 ? 0 : Numbers.NONE);
        }
        for (int sort = 0; sort <= 3; sort++) {
            DUE.is("sort " + sort, x.law(0, Numbers.law(0, 0, 4, sort, 3)), sort < 3 ? 0 : Numbers.NONE);
        }
        for (int value = 0; value <= 3; value++) {
            DUE.is("value " + value, x.law(0, Numbers.law(0, 0, 4, 2, value)), value > 0 ? 0 : Numbers.NONE);
        }
        DUE.is("the greatest", x.law(0, Numbers.law(3, 4, 4, 3, 3)), Numbers.NONE);
    }

    private static void whatIsTakenApart() {
        DUE.sentence("What is KIND * 10000 + WORTH * 1000 + ROLE (0 .. 3; 4: none is asked) * 100 + sort (0 .. 2; 3: none is asked) * 10 "
            + "+ value");
        AskTrust x = lettingAll();
        for (int kind = 0; kind <= 3; kind++) {
            for (int worth = 0; worth <= 4; worth++) {
                DUE.is("least numbers behind", x.law(0, Numbers.law(kind, worth, 0, 0, 0)), kind * 5 + worth);
                DUE.is("greatest numbers behind", x.law(0, Numbers.law(kind, worth, 3, 3, 3)), kind * 5 + worth);
            }
        }
    }

    private static void noSuchHeap() {
        DUE.sentence("-2 if that can't be, or there is no such HEAP.");
        AskTrust x = lettingAll();
        for (int heap : NO_HEAPS) {
            DUE.is("law on HEAP " + heap, x.law(heap, 0), -2);
        }
        DUE.is("law on HEAP 0", x.law(0, 0), 0);
        DUE.is("law on HEAP 1", x.law(1, 0), 0);
    }

    private static void worthNotBelow() {
        DUE.sentence("(and of a WORTH not below a number)");
        for (int let = 0; let <= 4; let++) {
            AskTrust x = new AskTrust();
            x.rule(0, Numbers.ANYBODY, Numbers.where(15, 15, let, let), Numbers.LET);
            for (int worth = 0; worth <= 4; worth++) {
                DUE.is("LET is WORTH " + let + ", law from " + worth, x.law(0, Numbers.law(0, worth, 0, 3, 0)),
                    let >= worth ? let : Numbers.NONE);
            }
        }
    }

    private static void justThatKind() {
        DUE.sentence("FACTS break it, if they are LET, of that KIND and WORTH");
        for (int let = 0; let <= 3; let++) {
            AskTrust x = new AskTrust();
            x.rule(0, Numbers.ANYBODY, Numbers.where(8, 1 << let, 0, 4), Numbers.LET);
            for (int kind = 0; kind <= 3; kind++) {
                DUE.is("LET is KIND " + let + ", law on " + kind, x.law(0, Numbers.law(kind, 0, 0, 3, 0)),
                    kind == let ? Numbers.code(0, 0, 0, 0, 3, let, 0) : Numbers.NONE);
            }
        }
    }

    private static void theRoleIsNotThere() {
        DUE.sentence("and the ROLE that is asked isn't there");
        for (int roles = 0; roles <= 15; roles++) {
            AskTrust x = new AskTrust();
            x.rule(0, Numbers.what(roles, 3, 0, 0), Numbers.ANYWHERE, Numbers.LET);
            for (int role = 0; role <= 3; role++) {
                boolean there = (roles >> role) % 2 == 1;
                DUE.is("LET with " + roles + ", law on " + role, x.law(0, Numbers.law(0, 0, role, 3, 3)),
                    there ? Numbers.NONE : Numbers.code(roles, 0, 0, 0, 0, 0, 0));
            }
        }
    }

    private static void theMarkHasLess() {
        DUE.sentence("or the MARK that is asked has less");
        for (int sort = 0; sort <= 2; sort++) {
            int one = 80 << (2 * (2 - sort));
            for (int let = 0; let <= 3; let++) {
                AskTrust x = new AskTrust();
                x.rule(0, Numbers.what(0, sort, let, 0), Numbers.ANYWHERE, Numbers.LET);
                for (int value = 0; value <= 3; value++) {
                    DUE.is("LET from " + let + ", law of " + value, x.law(0, Numbers.law(0, 0, 4, sort, value)),
                        value <= let ? Numbers.NONE : let * one);
                }
            }
        }
    }

    private static void roleOrMark() {
        DUE.sentence("without a ROLE and a value of a MARK (at least)");
        AskTrust x = new AskTrust();
        x.rule(0, Numbers.what(8, 0, 2, 0), Numbers.ANYWHERE, Numbers.LET);
        int least = Numbers.code(8, 2, 0, 0, 0, 0, 0);
        DUE.is("both are there", x.law(0, Numbers.law(0, 0, 3, 0, 2)), Numbers.NONE);
        DUE.is("the value is less", x.law(0, Numbers.law(0, 0, 3, 0, 3)), least);
        DUE.is("the ROLE isn't there", x.law(0, Numbers.law(0, 0, 2, 0, 2)), least);
        DUE.is("both lack", x.law(0, Numbers.law(0, 0, 2, 0, 3)), least);
        DUE.is("a value of 0 asks no more than the ROLE", x.law(0, Numbers.law(0, 0, 3, 1, 0)), Numbers.NONE);
    }

    private static void neitherIsAsked() {
        DUE.sentence("(if neither is asked, nothing breaks it)");
        AskTrust x = lettingAll();
        for (int kind = 0; kind <= 3; kind++) {
            for (int worth = 0; worth <= 4; worth++) {
                for (int value = 0; value <= 3; value++) {
                    DUE.is("law", x.law(0, Numbers.law(kind, worth, 4, 3, value)), Numbers.NONE);
                }
            }
        }
    }

    private static void theLeastCode() {
        DUE.sentence("It holds, or there is the least code that breaks it.");
        AskTrust x = lettingAll();
        DUE.is("the least of all", x.law(0, Numbers.law(0, 0, 4, 0, 1)), 0);
        AskTrust y = new AskTrust();
        y.rule(0, Numbers.what(15, 3, 0, 8), Numbers.where(8, 8, 4, 4), Numbers.LET);
        DUE.is("third is less, and nothing else", y.law(0, Numbers.law(3, 4, 4, 2, 3)), Numbers.code(15, 3, 3, 2, 3, 3, 4));
        DUE.is("second is less", y.law(0, Numbers.law(3, 4, 4, 1, 3)), Numbers.code(15, 3, 2, 3, 3, 3, 4));
        DUE.is("first is less", y.law(0, Numbers.law(3, 4, 4, 0, 3)), Numbers.code(15, 2, 3, 3, 3, 3, 4));
        DUE.is("two less can't be", y.law(0, Numbers.law(3, 4, 4, 2, 2)), Numbers.NONE);
        AskTrust z = new AskTrust();
        z.rule(0, Numbers.what(7, 3, 0, 9), Numbers.where(8, 8, 4, 4), Numbers.LET);
        DUE.is("just one code", z.law(0, Numbers.law(3, 4, 3, 3, 0)), Numbers.code(7, 3, 3, 3, 3, 3, 4));
        DUE.is("none", z.law(0, Numbers.law(3, 4, 2, 0, 3)), Numbers.NONE);
    }

    private static void justLetBreaks() {
        DUE.sentence("FACTS break it, if they are LET");
        AskTrust x = new AskTrust();
        x.rule(0, Numbers.what(0, 2, 3, 0), Numbers.ANYWHERE, Numbers.LET);
        DUE.is("STEP UP doesn't break it", x.law(0, Numbers.law(0, 0, 4, 2, 3)), Numbers.NONE);
        x.rule(0, Numbers.ANYBODY, Numbers.ANYWHERE, Numbers.SHUT);
        x.rule(0, Numbers.ANYBODY, Numbers.ANYWHERE, Numbers.LET);
        DUE.is("SHUT comes before", x.law(0, Numbers.law(0, 0, 4, 2, 3)), Numbers.NONE);
        x.unrule(0, 1);
        DUE.is("LET", x.law(0, Numbers.law(0, 0, 4, 2, 3)), 0);
    }

    private static void lawsOnAnEmptyAndAFullHeap() {
        DUE.sentence("A LAW on a HEAP: NONE if it holds, else the least code.");
        AskTrust x = new AskTrust();
        DUE.is("on no RULES", x.law(0, 0), Numbers.NONE);
        for (int i = 0; i < 11; i++) {
            x.rule(0, Numbers.what(0, 3, 0, 11 - i), Numbers.ANYWHERE, Numbers.SHUT);
        }
        DUE.is("on 11 that say SHUT", x.law(0, 0), Numbers.NONE);
        x.rule(0, Numbers.ANYBODY, Numbers.where(15, 15, 3, 3), Numbers.LET);
        DUE.is("by the twelfth", x.law(0, 0), 3);
        x.rule(0, Numbers.ANYBODY, Numbers.ANYWHERE, Numbers.LET);
        DUE.is("a thirteenth isn't there", x.law(0, 0), 3);
        DUE.is("the other HEAP", x.law(1, 0), Numbers.NONE);
    }

    /** RULES that leave just the least FACTS of all: these are eight. */
    private static AskTrust allButTheLeast() {
        AskTrust x = new AskTrust();
        for (int role = 0; role <= 3; role++) {
            x.rule(0, Numbers.what(1 << role, 3, 0, 0), Numbers.ANYWHERE, Numbers.LET);
        }
        x.rule(0, Numbers.what(0, 3, 0, 1), Numbers.ANYWHERE, Numbers.LET);
        x.rule(0, Numbers.ANYBODY, Numbers.where(14, 15, 0, 4), Numbers.LET);
        x.rule(0, Numbers.ANYBODY, Numbers.where(15, 14, 0, 4), Numbers.LET);
        x.rule(0, Numbers.ANYBODY, Numbers.where(15, 15, 1, 4), Numbers.LET);
        return x;
    }

    private static void idleIfItDecidesForNone() {
        DUE.sentence("A RULE is IDLE, if it decides for no FACTS.");
        AskTrust x = new AskTrust();
        x.rule(0, Numbers.what(15, 3, 0, 9), Numbers.where(8, 8, 4, 4), Numbers.LET);
        DUE.no("it decides for the greatest FACTS", x.idle(0, 0));
        x.rule(0, Numbers.what(15, 3, 3, 9), Numbers.where(8, 8, 4, 4), Numbers.SHUT);
        DUE.yes("they are decided before", x.idle(0, 1));
        x.unrule(0, 0);
        DUE.no("it came up", x.idle(0, 0));
        x.rule(1, Numbers.what(0, 3, 0, 10), Numbers.ANYWHERE, Numbers.LET);
        DUE.yes("a SURE of 10 can't be", x.idle(1, 0));
        x.rule(1, Numbers.ANYBODY, Numbers.where(0, 15, 0, 4), Numbers.LET);
        DUE.yes("no PLACE", x.idle(1, 1));
        x.rule(1, Numbers.ANYBODY, Numbers.where(15, 0, 0, 4), Numbers.LET);
        DUE.yes("no KIND", x.idle(1, 2));
        x.sort(2, 20, 2);
        DUE.no("a SURE of 10 can be", x.idle(1, 0));
    }

    private static void idleByOneFactMore() {
        DUE.sentence("A RULE is IDLE, if it decides for no FACTS.");
        AskTrust x = allButTheLeast();
        x.rule(0, Numbers.ANYBODY, Numbers.ANYWHERE, Numbers.LET);
        x.rule(0, Numbers.ANYBODY, Numbers.ANYWHERE, Numbers.SHUT);
        for (int i = 0; i <= 8; i++) {
            DUE.no("idle " + i, x.idle(0, i));
        }
        DUE.yes("idle 9", x.idle(0, 9));
        x.unrule(0, 8);
        DUE.no("idle 8, the one for the least FACTS went", x.idle(0, 8));
        AskTrust y = allButTheLeast();
        y.rule(0, Numbers.ANYBODY, Numbers.where(1, 1, 0, 0), Numbers.LET);
        for (int i = 9; i <= 10; i++) {
            y.rule(0, Numbers.what(15, 3, 0, 0), Numbers.ANYWHERE, Numbers.SHUT);
        }
        y.rule(0, Numbers.ANYBODY, Numbers.ANYWHERE, Numbers.SHUT);
        DUE.no("idle 8 of 12", y.idle(0, 8));
        DUE.yes("idle 9 of 12", y.idle(0, 9));
        DUE.yes("the twelfth", y.idle(0, 11));
    }

    private static void idleOfNone() {
        DUE.sentence("Whether a RULE is IDLE; false if there is none such.");
        AskTrust x = new AskTrust();
        DUE.no("idle in an empty HEAP", x.idle(0, 0));
        for (int i = 0; i < 12; i++) {
            x.rule(0, Numbers.ANYBODY, Numbers.ANYWHERE, Numbers.LET);
        }
        DUE.no("the first", x.idle(0, 0));
        DUE.yes("the last", x.idle(0, 11));
        for (int rule : new int[] {-1, 12, Numbers.MOST_INT, Numbers.LEAST_INT}) {
            DUE.no("idle " + rule, x.idle(0, rule));
        }
        DUE.no("idle of the empty HEAP", x.idle(1, 11));
        for (int heap : NO_HEAPS) {
            DUE.no("idle of HEAP " + heap, x.idle(heap, 11));
        }
        x.unrule(0, 0);
        DUE.no("the last went", x.idle(0, 11));
    }

    private static int quarrel(int what, int where, int otherWhat, int otherWhere) {
        AskTrust x = new AskTrust();
        x.rule(1, what, where, Numbers.LET);
        x.rule(1, otherWhat, otherWhere, Numbers.SHUT);
        int found = x.quarrel(1, 0, 1);
        DUE.is("the other way round", x.quarrel(1, 1, 0), found);
        return found;
    }

    private static void quarrelByOneFact() {
        DUE.sentence("Two QUARREL, if some FACTS fit both, and they say otherwise.");
        DUE.is("all FACTS", quarrel(Numbers.ANYBODY, Numbers.ANYWHERE, Numbers.ANYBODY, Numbers.ANYWHERE), 0);
        int most = Numbers.what(15, 3, 0, 9);
        DUE.is("just the greatest", quarrel(most, Numbers.where(15, 8, 4, 4), Numbers.ANYBODY, Numbers.where(8, 15, 0, 4)), 81919);
        DUE.is("one PLACE", quarrel(Numbers.ANYBODY, Numbers.where(3, 15, 0, 4), Numbers.ANYBODY, Numbers.where(6, 15, 0, 4)), 20);
        DUE.is("one KIND", quarrel(Numbers.ANYBODY, Numbers.where(15, 12, 0, 4), Numbers.ANYBODY, Numbers.where(15, 6, 0, 4)), 10);
        DUE.is("one WORTH", quarrel(Numbers.ANYBODY, Numbers.where(15, 15, 0, 3), Numbers.ANYBODY, Numbers.where(15, 15, 3, 4)), 3);
        DUE.is("ROLES of both", quarrel(Numbers.what(9, 3, 0, 0), Numbers.ANYWHERE, Numbers.what(10, 3, 0, 0), Numbers.ANYWHERE),
            Numbers.code(11, 0, 0, 0, 0, 0, 0));
        DUE.is("MARKS of both", quarrel(Numbers.what(0, 0, 3, 0), Numbers.ANYWHERE, Numbers.what(0, 1, 3, 9), Numbers.ANYWHERE),
            Numbers.code(0, 3, 3, 3, 0, 0, 0));
        DUE.is("the higher value", quarrel(Numbers.what(0, 1, 1, 0), Numbers.ANYWHERE, Numbers.what(0, 1, 2, 0), Numbers.ANYWHERE),
            Numbers.code(0, 0, 2, 0, 0, 0, 0));
    }

    private static void quarrelByNone() {
        DUE.sentence("NONE if they don't");
        DUE.is("no PLACE", quarrel(Numbers.ANYBODY, Numbers.where(5, 15, 0, 4), Numbers.ANYBODY, Numbers.where(10, 15, 0, 4)), -1);
        DUE.is("no KIND", quarrel(Numbers.ANYBODY, Numbers.where(15, 7, 0, 4), Numbers.ANYBODY, Numbers.where(15, 8, 0, 4)), -1);
        DUE.is("no WORTH", quarrel(Numbers.ANYBODY, Numbers.where(15, 15, 0, 2), Numbers.ANYBODY, Numbers.where(15, 15, 3, 4)), -1);
        DUE.is("no MARKS", quarrel(Numbers.what(0, 3, 0, 10), Numbers.ANYWHERE, Numbers.ANYBODY, Numbers.ANYWHERE), -1);
        DUE.is("no bits", quarrel(Numbers.ANYBODY, Numbers.where(0, 15, 0, 4), Numbers.ANYBODY, Numbers.ANYWHERE), -1);
    }

    private static void quarrelIfTheySayOtherwise() {
        DUE.sentence("and they say otherwise");
        AskTrust x = new AskTrust();
        int[] says = {Numbers.LET, Numbers.LET, Numbers.SHUT, Numbers.SHUT};
        for (int said : says) {
            x.rule(0, Numbers.ANYBODY, Numbers.ANYWHERE, said);
        }
        for (int a = 0; a < 4; a++) {
            for (int b = 0; b < 4; b++) {
                DUE.is("quarrel " + a + " " + b, x.quarrel(0, a, b), says[a] == says[b] ? Numbers.NONE : 0);
            }
        }
    }

    private static void quarrelOfNoneSuch() {
        DUE.sentence("The least code by which two RULES of a HEAP QUARREL; NONE if they don't, or there is none such.");
        AskTrust x = new AskTrust();
        DUE.is("in an empty HEAP", x.quarrel(0, 0, 1), Numbers.NONE);
        for (int i = 0; i < 12; i++) {
            x.rule(0, Numbers.ANYBODY, Numbers.ANYWHERE, i < 11 ? Numbers.LET : Numbers.SHUT);
        }
        DUE.is("the first and the last", x.quarrel(0, 0, 11), 0);
        for (int rule : new int[] {-1, 12, 31, 32, Numbers.MOST_INT, Numbers.LEAST_INT}) {
            DUE.is("quarrel " + rule + " 11", x.quarrel(0, rule, 11), Numbers.NONE);
            DUE.is("quarrel 11 " + rule, x.quarrel(0, 11, rule), Numbers.NONE);
            DUE.is("quarrel 0 " + rule, x.quarrel(0, 0, rule), Numbers.NONE);
            DUE.is("quarrel " + rule + " twice", x.quarrel(0, rule, rule), Numbers.NONE);
        }
        DUE.is("of the empty HEAP", x.quarrel(1, 0, 11), Numbers.NONE);
        for (int heap : NO_HEAPS) {
            DUE.is("of HEAP " + heap, x.quarrel(heap, 0, 11), Numbers.NONE);
        }
    }
}
