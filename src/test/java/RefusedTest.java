import java.util.ArrayList;
import java.util.List;

/**
 * "What is refused changes nothing.", for each kind of refused call in each of several states: one object
 * gets the call and one like it doesn't, and then both must answer alike whatever they are asked.
 */
final class RefusedTest {
    private static final Due DUE = new Due("RefusedTest");
    private static final int NO = 0;

    /** What was told to an object before, or what it is asked then. */
    private interface Run {
        void of(AskTrust x, List<Integer> answers);
    }

    private interface Call {
        int to(AskTrust x);
    }

    private record Refused(String name, int due, Call call) {
    }

    private record State(String name, Run told, List<Refused> refused) {
    }

    public static void main(String[] args) {
        DUE.sentence("What is refused changes nothing.");
        List<Refused> always = refusedAlways();
        List<State> states = List.of(
            new State("new", (x, a) -> { }, with(always, refusedWhenEmpty())),
            new State("told", (x, a) -> tell(x), with(always, refusedWhenTold())),
            new State("with letters", (x, a) -> { tell(x); x.go(3); x.thing(8, 1, 1); }, with(always, refusedWhenTold())),
            new State("full", (x, a) -> fill(x), with(always, refusedWhenFull())),
            new State("late", (x, a) -> { tell(x); Numbers.pass(x, 5000); keepAll(x); }, always));
        Run[] looks = {RefusedTest::lookAtCounts, RefusedTest::lookAtFacts, RefusedTest::lookAtProofs,
            RefusedTest::lookAtTime, RefusedTest::lookAtLetters, RefusedTest::lookAtGrowth};
        for (State state : states) {
            for (Refused refused : state.refused) {
                for (Run look : looks) {
                    same(state, refused, look);
                }
            }
        }
        DUE.end();
    }

    private static void same(State state, Refused refused, Run look) {
        AskTrust x = new AskTrust();
        AskTrust like = new AskTrust();
        List<Integer> due = new ArrayList<>();
        List<Integer> got = new ArrayList<>();
        state.told.of(x, got);
        state.told.of(like, due);
        String name = state.name + ": " + refused.name;
        DUE.is(name, refused.call.to(x), refused.due);
        look.of(like, due);
        look.of(x, got);
        int differing = -1;
        for (int i = due.size() - 1; i >= 0; i--) {
            differing = got.get(i).equals(due.get(i)) ? differing : i;
        }
        DUE.is(name + ", then an answer that differs", differing, -1);
    }

    private static int num(boolean answer) {
        return answer ? 1 : 0;
    }

    private static List<Refused> with(List<Refused> some, List<Refused> more) {
        List<Refused> all = new ArrayList<>(some);
        all.addAll(more);
        return all;
    }

    /** Two HEAPS of a few RULES, FACTS of all kinds, a log of which one is LOST, and JUDGES that keep ANSWERS. */
    private static void tell(AskTrust x) {
        x.go(5);
        x.sort(0, 13, 2);
        x.sort(1, 23, 3);
        x.sort(2, 33, 4);
        x.rule(0, Numbers.what(1, 2, 2, 0), Numbers.where(15, 15, 0, 3), Numbers.LET);
        x.rule(0, Numbers.what(2, 3, 0, 0), Numbers.where(7, 7, 1, 4), Numbers.SHUT);
        x.rule(0, Numbers.what(0, 0, 1, 9), Numbers.ANYWHERE, Numbers.LET);
        x.rule(1, Numbers.what(4, 1, 2, 0), Numbers.ANYWHERE, Numbers.LET);
        x.rule(1, Numbers.what(0, 3, 0, 20), Numbers.ANYWHERE, Numbers.SHUT);
        x.go(4);
        for (int i = 0; i <= 9; i++) {
            x.roles(i, (i * 7 + 1) % 16);
            x.mark(i, 0, (i + 1) % 4);
            x.mark(i, 1, (i / 2 + 2) % 4);
            x.mark(i, 2, (i / 3 + 1) % 4);
            x.thing(i, (i + 2) % 4, (i + 3) % 5);
        }
        // The letters of all this come before the JUDGES are asked.
        x.go(2);
        x.judge(0, 50, 0);
        x.judge(1, 40, 1);
        x.judge(2, 9, 4);
        x.judge(3, 30, 20);
        for (int i = 0; i <= 9; i++) {
            x.ask(i * 1110 + i % 4);
        }
        x.behalf(Numbers.who(0, 0, 0, 0), 5);
        keepAll(x);
    }

    private static void keepAll(AskTrust x) {
        for (int judge = 0; judge <= 3; judge++) {
            x.judged(judge, 0);
            x.judged(judge, 9993);
        }
    }

    /** Both HEAPS and the log are full, and HEAP 1 is in force. */
    private static void fill(AskTrust x) {
        for (int i = 0; i < 12; i++) {
            x.rule(0, Numbers.what(i, 3, 0, 11 - i), Numbers.ANYWHERE, i % 3 == 0 ? Numbers.SHUT : Numbers.LET);
            x.rule(1, Numbers.what(0, 2, i % 4, 12 - i), Numbers.ANYWHERE, i % 5 == 0 ? Numbers.SHUT : Numbers.LET);
        }
        x.move(true);
        x.mark(0, 0, 3);
        x.mark(0, 2, 2);
        x.go(2);
        for (int i = 0; i < 300; i++) {
            x.ask(i % 10 * 1000);
        }
        keepAll(x);
    }

    private static List<Refused> refusedAlways() {
        List<Refused> all = new ArrayList<>();
        int[] outOf10 = {-1, 10, Numbers.MOST_INT, Numbers.LEAST_INT};
        int[] noHeaps = {-1, 2, Numbers.MOST_INT, Numbers.LEAST_INT};
        int[] noAsks = {-1, -1000, 4, 9994, 10000, Numbers.MOST_INT, Numbers.LEAST_INT};
        for (int n : new int[] {-1, 201, Numbers.MOST_INT, Numbers.LEAST_INT}) {
            all.add(new Refused("go " + n, Numbers.NONE, x -> x.go(n)));
        }
        for (int none : outOf10) {
            all.add(new Refused("roles of " + none, NO, x -> num(x.roles(none, 9))));
            all.add(new Refused("thing " + none, NO, x -> num(x.thing(none, 3, 2))));
            all.add(new Refused("behalf of " + none, Numbers.NONE, x -> x.behalf(1000, none)));
            for (int sort = 0; sort <= 2; sort++) {
                int of = sort;
                all.add(new Refused("mark " + of + " of " + none, NO, x -> num(x.mark(none, of, 3))));
            }
        }
        for (int heap : noHeaps) {
            all.add(new Refused("rule of HEAP " + heap, Numbers.NONE,
                x -> x.rule(heap, Numbers.ANYBODY, Numbers.ANYWHERE, Numbers.LET)));
            all.add(new Refused("unrule of HEAP " + heap, NO, x -> num(x.unrule(heap, 0))));
            all.add(new Refused("why of HEAP " + heap, Numbers.NONE, x -> x.why(heap, 0)));
            all.add(new Refused("law on HEAP " + heap, -2, x -> x.law(heap, 0)));
            all.add(new Refused("idle of HEAP " + heap, NO, x -> num(x.idle(heap, 0))));
            all.add(new Refused("quarrel of HEAP " + heap, Numbers.NONE, x -> x.quarrel(heap, 0, 1)));
        }
        for (int who : noAsks) {
            all.add(new Refused("ask " + who, Numbers.NONE, x -> x.ask(who)));
            all.add(new Refused("behalf by " + who, Numbers.NONE, x -> x.behalf(who, 2)));
            all.add(new Refused("why of " + who, Numbers.NONE, x -> x.why(0, who)));
            all.add(new Refused("facts of " + who, Numbers.NONE, x -> x.facts(who)));
            for (int judge = 0; judge <= 3; judge++) {
                int by = judge;
                all.add(new Refused("judged " + by + " of " + who, Numbers.NONE, x -> x.judged(by, who)));
            }
        }
        all.add(new Refused("behalf of oneself", Numbers.NONE, x -> x.behalf(5000, 5)));
        addWrongNumbers(all);
        addWrongRules(all);
        return all;
    }

    private static void addWrongNumbers(List<Refused> all) {
        all.add(new Refused("roles -1", NO, x -> num(x.roles(0, -1))));
        all.add(new Refused("roles 16", NO, x -> num(x.roles(0, 16))));
        for (int value : new int[] {-1, 4, Numbers.MOST_INT, Numbers.LEAST_INT}) {
            for (int sort = 0; sort <= 2; sort++) {
                int of = sort;
                all.add(new Refused("mark " + of + " " + value, NO, x -> num(x.mark(0, of, value))));
            }
            all.add(new Refused("kind " + value, NO, x -> num(x.thing(0, value, 4))));
            all.add(new Refused("judge " + value, NO, x -> num(x.judge(value, 3, 3))));
            all.add(new Refused("judged by " + value, Numbers.NONE, x -> x.judged(value, 0)));
            all.add(new Refused("keeps of " + value, Numbers.NONE, x -> x.keeps(value)));
        }
        for (int sort : new int[] {-1, 3, Numbers.MOST_INT, Numbers.LEAST_INT}) {
            all.add(new Refused("mark of sort " + sort, NO, x -> num(x.mark(0, sort, 3))));
            all.add(new Refused("sort " + sort, NO, x -> num(x.sort(sort, 3, 9))));
        }
        all.add(new Refused("worth -1", NO, x -> num(x.thing(0, 1, -1))));
        all.add(new Refused("worth 5", NO, x -> num(x.thing(0, 1, 5))));
        for (int sort = 0; sort <= 2; sort++) {
            int of = sort;
            all.add(new Refused("limit -1", NO, x -> num(x.sort(of, -1, 9))));
            all.add(new Refused("limit 501", NO, x -> num(x.sort(of, 501, 9))));
            all.add(new Refused("weight -1", NO, x -> num(x.sort(of, 3, -1))));
            all.add(new Refused("weight 10", NO, x -> num(x.sort(of, 3, 10))));
        }
        for (int judge = 0; judge <= 3; judge++) {
            int by = judge;
            all.add(new Refused("span -1", NO, x -> num(x.judge(by, -1, 7))));
            all.add(new Refused("span 51", NO, x -> num(x.judge(by, 51, 7))));
            all.add(new Refused("way -1", NO, x -> num(x.judge(by, 7, -1))));
            all.add(new Refused("way 21", NO, x -> num(x.judge(by, 7, 21))));
        }
        for (int what : new int[] {-1, 5, Numbers.MOST_INT, Numbers.LEAST_INT}) {
            all.add(new Refused("log 0 " + what, Numbers.NONE, x -> x.log(0, what)));
        }
        for (int i : new int[] {-1, 300, Numbers.MOST_INT, Numbers.LEAST_INT}) {
            all.add(new Refused("log " + i, Numbers.NONE, x -> x.log(i, 0)));
        }
        for (int what : new int[] {-1, 7, Numbers.MOST_INT, Numbers.LEAST_INT}) {
            all.add(new Refused("count " + what, Numbers.NONE, x -> x.count(what)));
        }
        for (int what : new int[] {-1, 40000, 5000, 500, 40, 4, Numbers.MOST_INT, Numbers.LEAST_INT}) {
            all.add(new Refused("law " + what, -2, x -> x.law(0, what)));
        }
    }

    private static void addWrongRules(List<Refused> all) {
        int[] whats = {-1, 160000, 4000, 400, Numbers.MOST_INT, Numbers.LEAST_INT};
        int[] wheres = {-1, 161504, 151604, 151505, 151555, 151510, Numbers.MOST_INT, Numbers.LEAST_INT};
        for (int heap = 0; heap <= 1; heap++) {
            int of = heap;
            for (int what : whats) {
                all.add(new Refused("rule " + what, Numbers.NONE, x -> x.rule(of, what, Numbers.ANYWHERE, Numbers.LET)));
            }
            for (int where : wheres) {
                all.add(new Refused("rule at " + where, Numbers.NONE, x -> x.rule(of, Numbers.ANYBODY, where, Numbers.LET)));
            }
            for (int says : new int[] {-1, 1, 3, Numbers.MOST_INT, Numbers.LEAST_INT}) {
                all.add(new Refused("rule says " + says, Numbers.NONE,
                    x -> x.rule(of, Numbers.ANYBODY, Numbers.ANYWHERE, says)));
            }
            for (int none : new int[] {-1, 12, Numbers.MOST_INT, Numbers.LEAST_INT}) {
                all.add(new Refused("unrule " + none, NO, x -> num(x.unrule(of, none))));
                all.add(new Refused("idle " + none, NO, x -> num(x.idle(of, none))));
                all.add(new Refused("quarrel " + none, Numbers.NONE, x -> x.quarrel(of, none, 0)));
                all.add(new Refused("quarrel 0 " + none, Numbers.NONE, x -> x.quarrel(of, 0, none)));
            }
        }
    }

    private static List<Refused> refusedWhenEmpty() {
        return List.of(
            new Refused("unrule 0 of none", NO, x -> num(x.unrule(0, 0))),
            new Refused("unrule 0 of none", NO, x -> num(x.unrule(1, 0))),
            new Refused("log of none", Numbers.NONE, x -> x.log(0, 0)),
            new Refused("idle 0 of none", NO, x -> num(x.idle(0, 0))),
            new Refused("quarrel of none", Numbers.NONE, x -> x.quarrel(0, 0, 0)));
    }

    private static List<Refused> refusedWhenTold() {
        return List.of(
            new Refused("move, though one is LOST", NO, x -> num(x.move(false))),
            new Refused("unrule 3 of 3", NO, x -> num(x.unrule(0, 3))),
            new Refused("unrule 2 of 2", NO, x -> num(x.unrule(1, 2))),
            new Refused("log 11 of 11", Numbers.NONE, x -> x.log(11, 0)),
            new Refused("idle 3 of 3", NO, x -> num(x.idle(0, 3))),
            new Refused("quarrel 3 of 3", Numbers.NONE, x -> x.quarrel(0, 1, 3)));
    }

    private static List<Refused> refusedWhenFull() {
        return List.of(
            new Refused("rule 13 of HEAP 0", Numbers.NONE, x -> x.rule(0, Numbers.ANYBODY, Numbers.ANYWHERE, Numbers.LET)),
            new Refused("rule 13 of HEAP 1", Numbers.NONE, x -> x.rule(1, Numbers.ANYBODY, Numbers.ANYWHERE, Numbers.LET)),
            new Refused("ask 301 of PERSON 0", Numbers.NONE, x -> x.ask(0)),
            new Refused("ask 301 of PERSON 9", Numbers.NONE, x -> x.ask(9000)),
            new Refused("behalf 301", Numbers.NONE, x -> x.behalf(0, 1)),
            new Refused("move, though one is LOST", NO, x -> num(x.move(false))));
    }

    private static void lookAtCounts(AskTrust x, List<Integer> answers) {
        for (int what = 0; what <= 6; what++) {
            answers.add(x.count(what));
        }
        for (int judge = 0; judge <= 3; judge++) {
            answers.add(x.keeps(judge));
        }
        answers.add(x.lost());
        int logged = x.count(4);
        for (int i = Math.max(0, logged - 12); i <= logged; i++) {
            for (int what = 0; what <= 4; what++) {
                answers.add(x.log(i, what));
            }
        }
        for (int what = 0; what <= 4; what++) {
            answers.add(x.log(0, what));
        }
    }

    private static void lookAtFacts(AskTrust x, List<Integer> answers) {
        for (int i = 0; i <= 9; i++) {
            int who = i * 1110 + i % 4;
            answers.add(x.facts(who));
            answers.add(x.why(0, who));
            answers.add(x.why(1, who));
            answers.add(x.judged(i % 4, who));
        }
    }

    private static void lookAtProofs(AskTrust x, List<Integer> answers) {
        for (int heap = 0; heap <= 1; heap++) {
            for (int rule = 0; rule <= 12; rule++) {
                answers.add(num(x.idle(heap, rule)));
                answers.add(x.quarrel(heap, 0, rule));
                answers.add(x.quarrel(heap, rule, 1));
            }
            for (int kind = 0; kind <= 3; kind++) {
                answers.add(x.law(heap, Numbers.law(kind, 1, kind, 3, 0)));
                answers.add(x.law(heap, Numbers.law(kind, 0, 4, kind % 3, 2)));
            }
        }
    }

    /** SPANS, LIMITS and letters that are on their way. */
    private static void lookAtTime(AskTrust x, List<Integer> answers) {
        for (int tick = 0; tick < 26; tick++) {
            answers.add(x.facts(tick % 10 * 1100));
            for (int judge = 0; judge <= 3; judge++) {
                answers.add(x.keeps(judge));
            }
            answers.add(x.go(2));
        }
    }

    /** WAYS: letters that are sent now. */
    private static void lookAtLetters(AskTrust x, List<Integer> answers) {
        x.go(20);
        keepAll(x);
        x.roles(9, 3);
        for (int tick = 0; tick <= 21; tick++) {
            for (int judge = 0; judge <= 3; judge++) {
                answers.add(x.keeps(judge));
            }
            answers.add(x.go(1));
        }
    }

    /** What is told next goes where it is due. */
    private static void lookAtGrowth(AskTrust x, List<Integer> answers) {
        answers.add(x.rule(0, Numbers.ANYBODY, Numbers.ANYWHERE, Numbers.LET));
        answers.add(x.rule(1, Numbers.ANYBODY, Numbers.ANYWHERE, Numbers.LET));
        answers.add(x.ask(1000));
        answers.add(x.behalf(2000, 3));
        answers.add(num(x.unrule(0, 0)));
        answers.add(num(x.move(false)));
        answers.add(num(x.move(true)));
        for (int i = 0; i <= 9; i++) {
            answers.add(x.ask(i * 1100));
            answers.add(x.judged(0, i * 1100));
        }
        lookAtCounts(x, answers);
    }
}
