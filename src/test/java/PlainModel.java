import java.util.ArrayList;
import java.util.HashMap;
import java.util.List;
import java.util.Map;
import java.util.TreeSet;

/** The document once more, word by word and without any thought of speed. */
final class PlainModel {
    /** FACTS as seven numbers: ROLES, three values, PLACE, KIND, WORTH. */
    private static final int[] BASES = {16, 4, 4, 4, 4, 4, 5};
    private static final int WORLD = 81920;

    private static final class OneJudge {
        int span = 5;
        int way = 2;
        final TreeSet<Integer> arrivals = new TreeSet<>();
        final Map<Integer, int[]> kept = new HashMap<>();
    }

    private int now = 0;
    private int force = 0;
    private int toldKept = 0;
    private final int[] roles = new int[10];
    private final int[][] things = new int[10][2];
    private final Map<Integer, int[]> marks = new HashMap<>();
    private final int[] limits = {20, 20, 20};
    private final int[] weights = {1, 1, 1};
    private final List<List<int[]>> heaps = List.of(new ArrayList<>(), new ArrayList<>());
    private final List<OneJudge> judges = List.of(new OneJudge(), new OneJudge(), new OneJudge(), new OneJudge());
    private final List<int[]> logged = new ArrayList<>();

    private static boolean in(int x, int least, int most) {
        return least <= x && x <= most;
    }

    private static int[] decode(int code) {
        int[] facts = new int[7];
        for (int i = 6; i >= 0; i--) {
            facts[i] = code % BASES[i];
            code /= BASES[i];
        }
        return facts;
    }

    private static int encode(int[] facts) {
        int code = 0;
        for (int i = 0; i < 7; i++) {
            code = code * BASES[i] + facts[i];
        }
        return code;
    }

    private void change() {
        for (OneJudge j : judges) {
            if (j.way == 0) {
                j.kept.clear();
            } else {
                j.arrivals.add(now + j.way);
            }
        }
    }

    int go(int n) {
        if (!in(n, 0, 200)) {
            return -1;
        }
        for (int i = 0; i < n && now < 5000; i++) {
            now++;
            for (OneJudge j : judges) {
                if (j.arrivals.remove(now)) {
                    j.kept.clear();
                }
            }
        }
        return now;
    }

    boolean roles(int person, int newRoles) {
        if (!in(person, 0, 9) || !in(newRoles, 0, 15)) {
            return false;
        }
        roles[person] = newRoles;
        change();
        return true;
    }

    boolean mark(int whose, int sort, int value) {
        if (!in(whose, 0, 9) || !in(sort, 0, 2) || !in(value, 0, 3)) {
            return false;
        }
        marks.put(sort * 10 + whose, new int[] {value, now});
        change();
        return true;
    }

    boolean thing(int thing, int kind, int worth) {
        if (!in(thing, 0, 9) || !in(kind, 0, 3) || !in(worth, 0, 4)) {
            return false;
        }
        things[thing] = new int[] {kind, worth};
        change();
        return true;
    }

    boolean sort(int sort, int limit, int weight) {
        if (!in(sort, 0, 2) || !in(limit, 0, 500) || !in(weight, 0, 9)) {
            return false;
        }
        limits[sort] = limit;
        weights[sort] = weight;
        change();
        return true;
    }

    /** A RULE: ROLES, sort, value, SURE, PLACES, KINDS, least, most, says. */
    int rule(int heap, int what, int where, int says) {
        if (!in(heap, 0, 1) || heaps.get(heap).size() == 12 || what < 0 || where < 0 || (says != 0 && says != 2)) {
            return -1;
        }
        int[] rule = {what / 10000, what % 10000 / 1000, what % 1000 / 100, what % 100,
            where / 10000, where % 10000 / 100, where % 100 / 10, where % 10, says};
        int[] most = {15, 3, 3, 99, 15, 15, 4, 4, 2};
        for (int i = 0; i < 9; i++) {
            if (!in(rule[i], 0, most[i])) {
                return -1;
            }
        }
        if (rule[6] > rule[7]) {
            return -1;
        }
        heaps.get(heap).add(rule);
        change();
        return heaps.get(heap).size();
    }

    private boolean isRule(int heap, int rule) {
        return in(heap, 0, 1) && in(rule, 0, heaps.get(heap).size() - 1);
    }

    boolean unrule(int heap, int rule) {
        if (!isRule(heap, rule)) {
            return false;
        }
        heaps.get(heap).remove(rule);
        change();
        return true;
    }

    private boolean fits(int[] rule, int[] facts) {
        int sure = 0;
        for (int sort = 0; sort < 3; sort++) {
            sure += facts[1 + sort] * weights[sort];
        }
        for (int role = 0; role < 4; role++) {
            if ((rule[0] & 1 << role) != 0 && (facts[0] & 1 << role) == 0) {
                return false;
            }
        }
        if (rule[1] != 3 && facts[1 + rule[1]] < rule[2]) {
            return false;
        }
        return sure >= rule[3] && (rule[4] & 1 << facts[4]) != 0 && (rule[5] & 1 << facts[5]) != 0
            && facts[6] >= rule[6] && facts[6] <= rule[7];
    }

    private int decider(int heap, int[] facts) {
        for (int i = 0; i < heaps.get(heap).size(); i++) {
            if (fits(heaps.get(heap).get(i), facts)) {
                return i;
            }
        }
        return -1;
    }

    private boolean lets(int heap, int[] facts) {
        int rule = decider(heap, facts);
        return rule != -1 && heaps.get(heap).get(rule)[8] == 0;
    }

    private int answer(int[] facts) {
        if (lets(force, facts)) {
            return 0;
        }
        int[] stronger = facts.clone();
        stronger[3] = 3;
        return lets(force, stronger) ? 1 : 2;
    }

    private static boolean isAsk(int who) {
        return in(who, 0, 9999) && in(who % 10, 0, 3);
    }

    private int fresh(int whose, int sort) {
        int[] mark = marks.get(sort * 10 + whose);
        return mark == null || now - mark[1] > limits[sort] ? 0 : mark[0];
    }

    private int[] factsOf(int person, int who) {
        int machine = who % 1000 / 100;
        int[] thing = things[who % 100 / 10];
        return new int[] {roles[person], fresh(machine, 0), fresh(machine, 1), fresh(person, 2),
            who % 10, thing[0], thing[1]};
    }

    private int[] factsOf(int who) {
        return factsOf(who / 1000, who);
    }

    int ask(int who) {
        if (!isAsk(who) || logged.size() == 300) {
            return -1;
        }
        int answer = answer(factsOf(who));
        logged.add(new int[] {now, who, encode(factsOf(who)), answer, -1});
        return answer;
    }

    int behalf(int who, int person) {
        if (!isAsk(who) || logged.size() == 300 || !in(person, 0, 9) || person == who / 1000) {
            return -1;
        }
        int mine = answer(factsOf(who));
        int other = answer(factsOf(person, who));
        int worse = mine == 2 || other == 2 ? 2 : mine == 1 || other == 1 ? 1 : 0;
        logged.add(new int[] {now, who, encode(factsOf(who)), worse, person});
        return worse;
    }

    int why(int heap, int who) {
        return in(heap, 0, 1) && isAsk(who) ? decider(heap, factsOf(who)) : -1;
    }

    int facts(int who) {
        return isAsk(who) ? encode(factsOf(who)) : -1;
    }

    boolean judge(int judge, int span, int way) {
        if (!in(judge, 0, 3) || !in(span, 0, 50) || !in(way, 0, 20)) {
            return false;
        }
        judges.get(judge).span = span;
        judges.get(judge).way = way;
        return true;
    }

    int judged(int judge, int who) {
        if (!in(judge, 0, 3) || !isAsk(who)) {
            return -1;
        }
        OneJudge j = judges.get(judge);
        int[] kept = j.kept.get(who);
        if (kept != null && now - kept[0] <= j.span) {
            toldKept++;
            return kept[1];
        }
        int answer = answer(factsOf(who));
        j.kept.put(who, new int[] {now, answer});
        return answer;
    }

    int keeps(int judge) {
        if (!in(judge, 0, 3)) {
            return -1;
        }
        int n = 0;
        for (int[] kept : judges.get(judge).kept.values()) {
            n += now - kept[0] <= judges.get(judge).span ? 1 : 0;
        }
        return n;
    }

    int law(int heap, int what) {
        if (!in(heap, 0, 1) || what < 0 || what > 39999) {
            return -2;
        }
        int kind = what / 10000;
        int worth = what / 1000 % 10;
        int role = what / 100 % 10;
        int sort = what / 10 % 10;
        int value = what % 10;
        if (worth > 4 || role > 4 || sort > 3 || value > 3) {
            return -2;
        }
        for (int code = 0; code < WORLD; code++) {
            int[] f = decode(code);
            boolean noRole = role != 4 && (f[0] & 1 << role) == 0;
            boolean noMark = sort != 3 && f[1 + sort] < value;
            if (f[5] == kind && f[6] >= worth && (noRole || noMark) && lets(heap, f)) {
                return code;
            }
        }
        return -1;
    }

    boolean idle(int heap, int rule) {
        if (!isRule(heap, rule)) {
            return false;
        }
        for (int code = 0; code < WORLD; code++) {
            if (decider(heap, decode(code)) == rule) {
                return false;
            }
        }
        return true;
    }

    int quarrel(int heap, int a, int b) {
        if (!isRule(heap, a) || !isRule(heap, b)) {
            return -1;
        }
        int[] one = heaps.get(heap).get(a);
        int[] other = heaps.get(heap).get(b);
        for (int code = 0; one[8] != other[8] && code < WORLD; code++) {
            if (fits(one, decode(code)) && fits(other, decode(code))) {
                return code;
            }
        }
        return -1;
    }

    int log(int i, int what) {
        return in(i, 0, logged.size() - 1) && in(what, 0, 4) ? logged.get(i)[what] : -1;
    }

    int lost() {
        int n = 0;
        for (int i = logged.size() - 1; i >= 0 && i >= logged.size() - 40; i--) {
            boolean wasLet = logged.get(i)[3] == 0;
            n += wasLet && !lets(1 - force, decode(logged.get(i)[2])) ? 1 : 0;
        }
        return n;
    }

    boolean move(boolean anyway) {
        if (lost() > 0 && !anyway) {
            return false;
        }
        force = 1 - force;
        change();
        return true;
    }

    int count(int what) {
        int let = 0;
        for (int[] row : logged) {
            let += row[3] == 0 ? 1 : 0;
        }
        int[] counts = {now, force, heaps.get(0).size(), heaps.get(1).size(), logged.size(), let, toldKept};
        return in(what, 0, 6) ? counts[what] : -1;
    }
}
