import java.util.Arrays;

/**
 * A house of judged asks. The document's words in capitals (ROLES, MARKS, HEAPS ..) are used here
 * as it uses them.
 *
 * FACTS are held as their code. It splits into three parts that RULES look at one by one: the
 * ROLES (0 .. 15), the values of the three MARKS as one number (0 .. 63), and the spot, which is
 * PLACE, KIND and WORTH as one number (0 .. 79).
 */
public final class AskTrust {
    public static final int NONE = -1;

    private static final int LET = 0;
    private static final int STEP_UP = 1;
    private static final int SHUT = 2;
    private static final int NO_SUCH_LAW = -2;

    private static final int LAST_TICK = 5000;
    private static final int LONGEST_GO = 200;
    private static final int BEARERS = 10;
    private static final int THINGS = 10;
    private static final int PLACES = 4;
    private static final int KINDS = 4;
    private static final int WORTHS = 5;
    private static final int ROLE_BITS = 4;
    private static final int SORTS = 3;
    private static final int PERSON_SORT = 2;
    private static final int BEST_VALUE = 3;

    private static final int ALL_ROLES = 16;
    private static final int ALL_MARKS = 64;
    private static final int ALL_SPOTS = 80;
    private static final int ALL_ASKS = 10000;

    private static final int MOST_LIMIT = 500;
    private static final int MOST_WEIGHT = 9;
    private static final int MOST_SPAN = 50;
    private static final int MOST_WAY = 20;
    private static final int MOST_RULES = 12;
    private static final int MOST_LOGGED = 300;
    private static final int LATEST = 40;

    private final int[] rolesOf;
    private final int[] kindOf;
    private final int[] worthOf;
    private final Marks marks;
    private final Heap[] heaps;
    private final Judge[] judges;
    private final Diary diary;
    private final World world;
    private int now;
    private int inForce;
    private int toldFromKept;

    public AskTrust() {
        rolesOf = new int[BEARERS];
        kindOf = new int[THINGS];
        worthOf = new int[THINGS];
        marks = new Marks();
        heaps = new Heap[] {new Heap(), new Heap()};
        judges = new Judge[] {new Judge(), new Judge(), new Judge(), new Judge()};
        diary = new Diary();
        world = new World();
    }

    public int go(int n) {
        if (!isWithin(n, LONGEST_GO)) {
            return NONE;
        }
        int ticks = Math.min(n, LAST_TICK - now);
        now += ticks;
        for (int i = 0; i < judges.length; i++) {
            judges[i].letPass(ticks);
        }
        return now;
    }

    public boolean roles(int person, int roles) {
        if (!isBelow(person, BEARERS) || !isBelow(roles, ALL_ROLES)) {
            return false;
        }
        rolesOf[person] = roles;
        sendLetters();
        return true;
    }

    public boolean mark(int whose, int sort, int value) {
        if (!isBelow(whose, BEARERS) || !isBelow(sort, SORTS) || !isWithin(value, BEST_VALUE)) {
            return false;
        }
        marks.tell(whose, sort, value, now);
        sendLetters();
        return true;
    }

    public boolean thing(int thing, int kind, int worth) {
        if (!isBelow(thing, THINGS) || !isBelow(kind, KINDS) || !isBelow(worth, WORTHS)) {
            return false;
        }
        kindOf[thing] = kind;
        worthOf[thing] = worth;
        sendLetters();
        return true;
    }

    public boolean sort(int sort, int limit, int weight) {
        if (!isBelow(sort, SORTS) || !isWithin(limit, MOST_LIMIT) || !isWithin(weight, MOST_WEIGHT)) {
            return false;
        }
        marks.regulate(sort, limit, weight);
        sendLetters();
        return true;
    }

    public int rule(int heap, int what, int where, int says) {
        Heap grown = heapAt(heap);
        if (grown == null || grown.isFull() || !Rule.canBe(what, where, says)) {
            return NONE;
        }
        grown.append(new Rule(what, where, says));
        sendLetters();
        return grown.size;
    }

    public boolean unrule(int heap, int rule) {
        Heap shrunk = heapAt(heap);
        if (shrunk == null || !shrunk.drop(rule)) {
            return false;
        }
        sendLetters();
        return true;
    }

    public int ask(int who) {
        if (!isAsk(who) || diary.isFull()) {
            return NONE;
        }
        int code = codeNow(who);
        int answer = answerInForce(code);
        diary.write(now, who, code, answer, NONE);
        return answer;
    }

    public int behalf(int who, int person) {
        if (!isAsk(who) || !isBelow(person, BEARERS) || person == who / 1000 || diary.isFull()) {
            return NONE;
        }
        int code = codeNow(who);
        int codeOfOther = codeNow(person * 1000 + who % 1000);
        // The numbers of the ANSWERS grow as the ANSWERS get worse.
        int answer = Math.max(answerInForce(code), answerInForce(codeOfOther));
        diary.write(now, who, code, answer, person);
        return answer;
    }

    public int why(int heap, int who) {
        Heap looked = heapAt(heap);
        if (looked == null || !isAsk(who)) {
            return NONE;
        }
        return looked.firstFit(codeNow(who), marks);
    }

    public int facts(int who) {
        return isAsk(who) ? codeNow(who) : NONE;
    }

    public boolean judge(int judge, int span, int way) {
        Judge told = judgeAt(judge);
        if (told == null || !isWithin(span, MOST_SPAN) || !isWithin(way, MOST_WAY)) {
            return false;
        }
        told.span = span;
        told.way = way;
        return true;
    }

    public int judged(int judge, int who) {
        Judge asked = judgeAt(judge);
        if (asked == null || !isAsk(who)) {
            return NONE;
        }
        Kept kept = asked.keptFor(who);
        if (kept != null && asked.couldTell(kept, now)) {
            toldFromKept++;
            return kept.answer;
        }
        int answer = answerInForce(codeNow(who));
        if (kept == null) {
            kept = asked.keepMore(who);
        }
        kept.made = now;
        kept.answer = answer;
        return answer;
    }

    public int keeps(int judge) {
        Judge looked = judgeAt(judge);
        return looked == null ? NONE : looked.tellable(now);
    }

    public int law(int heap, int what) {
        Heap proved = heapAt(heap);
        if (proved == null || !Law.canBe(what)) {
            return NO_SUCH_LAW;
        }
        world.sift(proved, marks);
        return world.leastBreaking(new Law(what));
    }

    public boolean idle(int heap, int rule) {
        Heap proved = heapAt(heap);
        Rule looked = proved == null ? null : proved.ruleAt(rule);
        if (looked == null) {
            return false;
        }
        world.sift(proved, marks);
        return !world.isEverFirst(rule, looked.roles);
    }

    public int quarrel(int heap, int a, int b) {
        Heap proved = heapAt(heap);
        if (proved == null) {
            return NONE;
        }
        Rule one = proved.ruleAt(a);
        Rule other = proved.ruleAt(b);
        if (one == null || other == null || one.says == other.says) {
            return NONE;
        }
        world.sift(proved, marks);
        return world.leastFittingAll((1 << a) | (1 << b));
    }

    public int log(int i, int what) {
        return diary.read(i, what);
    }

    public int lost() {
        Heap beside = heaps[1 - inForce];
        int found = 0;
        for (int i = Math.max(0, diary.size - LATEST); i < diary.size; i++) {
            boolean wasLet = diary.read(i, Diary.ANSWER) == LET;
            if (wasLet && !beside.isLet(diary.read(i, Diary.CODE), marks)) {
                found++;
            }
        }
        return found;
    }

    public boolean move(boolean anyway) {
        if (!anyway && lost() > 0) {
            return false;
        }
        inForce = 1 - inForce;
        sendLetters();
        return true;
    }

    public int count(int what) {
        switch (what) {
            case 0: return now;
            case 1: return inForce;
            case 2: return heaps[0].size;
            case 3: return heaps[1].size;
            case 4: return diary.size;
            case 5: return diary.letSize;
            case 6: return toldFromKept;
            default: return NONE;
        }
    }

    private static boolean isWithin(int number, int most) {
        return number >= 0 && number <= most;
    }

    private static boolean isBelow(int number, int end) {
        return number >= 0 && number < end;
    }

    private static boolean isAsk(int who) {
        return isBelow(who, ALL_ASKS) && who % 10 < PLACES;
    }

    private static boolean hasBit(int bits, int bit) {
        return ((bits >> bit) & 1) == 1;
    }

    private static int rolesIn(int code) {
        return code / (ALL_MARKS * ALL_SPOTS);
    }

    private static int marksIn(int code) {
        return code / ALL_SPOTS % ALL_MARKS;
    }

    private static int spotIn(int code) {
        return code % ALL_SPOTS;
    }

    private static int valueIn(int marks, int sort) {
        return (marks >> (2 * (PERSON_SORT - sort))) & 3;
    }

    private Heap heapAt(int heap) {
        return isBelow(heap, heaps.length) ? heaps[heap] : null;
    }

    private Judge judgeAt(int judge) {
        return isBelow(judge, judges.length) ? judges[judge] : null;
    }

    private void sendLetters() {
        for (int i = 0; i < judges.length; i++) {
            judges[i].sendLetter();
        }
    }

    /** For an ASK that there is: isAsk(who). */
    private int codeNow(int who) {
        int person = who / 1000;
        int machine = who / 100 % 10;
        int thing = who / 10 % 10;
        int code = rolesOf[person];
        code = code * 4 + marks.valueOf(machine, 0, now);
        code = code * 4 + marks.valueOf(machine, 1, now);
        code = code * 4 + marks.valueOf(person, PERSON_SORT, now);
        code = code * PLACES + who % 10;
        code = code * KINDS + kindOf[thing];
        return code * WORTHS + worthOf[thing];
    }

    private int answerInForce(int code) {
        Heap heap = heaps[inForce];
        if (heap.isLet(code, marks)) {
            return LET;
        }
        int lacking = BEST_VALUE - valueIn(marksIn(code), PERSON_SORT);
        return heap.isLet(code + lacking * ALL_SPOTS, marks) ? STEP_UP : SHUT;
    }

    /** What was told of MARKS, and what their sorts ask. */
    private static final class Marks {
        private final int[][] value;
        private final int[][] tick;
        private final int[] limit;
        private final int[] weight;

        Marks() {
            // A MARK that never was told has the value 0 that it is made with, FRESH or not.
            value = new int[SORTS][BEARERS];
            tick = new int[SORTS][BEARERS];
            limit = new int[] {20, 20, 20};
            weight = new int[] {1, 1, 1};
        }

        void tell(int whose, int sort, int told, int now) {
            value[sort][whose] = told;
            tick[sort][whose] = now;
        }

        void regulate(int sort, int newLimit, int newWeight) {
            limit[sort] = newLimit;
            weight[sort] = newWeight;
        }

        int valueOf(int whose, int sort, int now) {
            boolean isFresh = now - tick[sort][whose] <= limit[sort];
            return isFresh ? value[sort][whose] : 0;
        }

        int sureOf(int marks) {
            int sure = 0;
            for (int sort = 0; sort < SORTS; sort++) {
                sure += valueIn(marks, sort) * weight[sort];
            }
            return sure;
        }
    }

    /** One RULE, as it was told. */
    private static final class Rule {
        private final int roles;
        private final int sort;
        private final int value;
        private final int sure;
        private final int places;
        private final int kinds;
        private final int least;
        private final int most;
        private final int says;

        /** For numbers that can be: canBe(what, where, says). */
        Rule(int what, int where, int says) {
            roles = what / 10000;
            sort = what / 1000 % 10;
            value = what / 100 % 10;
            sure = what % 100;
            places = where / 10000;
            kinds = where / 100 % 100;
            least = where / 10 % 10;
            most = where % 10;
            this.says = says;
        }

        static boolean canBe(int what, int where, int says) {
            return canAsk(what) && canStand(where) && (says == LET || says == SHUT);
        }

        private static boolean canAsk(int what) {
            return what >= 0
                && what / 10000 < ALL_ROLES
                && what / 1000 % 10 <= SORTS
                && what / 100 % 10 <= BEST_VALUE;
        }

        private static boolean canStand(int where) {
            return where >= 0
                && where / 10000 < 1 << PLACES
                && where / 100 % 100 < 1 << KINDS
                && where / 10 % 10 <= where % 10
                && where % 10 < WORTHS;
        }

        boolean fits(int code, int sureNow) {
            return fitsRoles(rolesIn(code)) && fitsMarks(marksIn(code), sureNow) && fitsSpot(spotIn(code));
        }

        boolean fitsRoles(int there) {
            return (there & roles) == roles;
        }

        boolean fitsMarks(int marks, int sureNow) {
            return sureNow >= sure && (sort == SORTS || valueIn(marks, sort) >= value);
        }

        boolean fitsSpot(int spot) {
            int worth = spot % WORTHS;
            return hasBit(places, spot / (KINDS * WORTHS))
                && hasBit(kinds, spot / WORTHS % KINDS)
                && least <= worth
                && worth <= most;
        }
    }

    /** RULES in order. */
    private static final class Heap {
        private final Rule[] rules;
        private int size;

        Heap() {
            rules = new Rule[MOST_RULES];
        }

        boolean isFull() {
            return size >= MOST_RULES;
        }

        void append(Rule more) {
            if (!isFull()) {
                rules[size] = more;
                size++;
            }
        }

        boolean drop(int gone) {
            if (!isBelow(gone, size)) {
                return false;
            }
            size--;
            for (int i = gone; i < size; i++) {
                rules[i] = rules[i + 1];
            }
            rules[size] = null;
            return true;
        }

        /** Null if there is none such. */
        Rule ruleAt(int i) {
            return isBelow(i, size) ? rules[i] : null;
        }

        int firstFit(int code, Marks weights) {
            int sure = weights.sureOf(marksIn(code));
            for (int i = 0; i < size; i++) {
                Rule rule = rules[i];
                if (rule != null && rule.fits(code, sure)) {
                    return i;
                }
            }
            return NONE;
        }

        boolean isLet(int code, Marks weights) {
            Rule first = ruleAt(firstFit(code, weights));
            return first != null && first.says == LET;
        }
    }

    /** An ANSWER that a JUDGE keeps, and the one kept before it. */
    private static final class Kept {
        private final int who;
        private final Kept before;
        private int made;
        private int answer;

        Kept(int who, Kept before) {
            this.who = who;
            this.before = before;
        }
    }

    /** A JUDGE with the ANSWERS that it keeps and the letters on their way to it. */
    private static final class Judge {
        private int span;
        private int way;
        /** Bit k: a letter comes k TICKS from NOW. */
        private int letters;
        private Kept latest;

        Judge() {
            span = 5;
            way = 2;
        }

        void sendLetter() {
            if (way == 0) {
                latest = null;
            } else {
                letters |= 1 << way;
            }
        }

        void letPass(int ticks) {
            // No letter is longer on its way, and a wider shift would wrap around.
            int shift = Math.min(ticks, MOST_WAY);
            int come = letters & ((1 << (shift + 1)) - 1);
            if (come != 0) {
                latest = null;
            }
            letters = (letters - come) >> shift;
        }

        /** Null if it keeps none. */
        Kept keptFor(int who) {
            for (Kept kept = latest; kept != null; kept = kept.before) {
                if (kept.who == who) {
                    return kept;
                }
            }
            return null;
        }

        Kept keepMore(int who) {
            latest = new Kept(who, latest);
            return latest;
        }

        boolean couldTell(Kept kept, int now) {
            return now - kept.made <= span;
        }

        int tellable(int now) {
            int found = 0;
            for (Kept kept = latest; kept != null; kept = kept.before) {
                if (couldTell(kept, now)) {
                    found++;
                }
            }
            return found;
        }
    }

    /** The ASKS that were logged. */
    private static final class Diary {
        private static final int TICK = 0;
        private static final int WHO = 1;
        private static final int CODE = 2;
        private static final int ANSWER = 3;
        private static final int FOR_WHOM = 4;
        private static final int COLUMNS = 5;

        private final int[][] columns;
        private int size;
        private int letSize;

        Diary() {
            columns = new int[COLUMNS][MOST_LOGGED];
        }

        boolean isFull() {
            return size >= MOST_LOGGED;
        }

        void write(int tick, int who, int code, int answer, int forWhom) {
            if (isFull()) {
                return;
            }
            columns[TICK][size] = tick;
            columns[WHO][size] = who;
            columns[CODE][size] = code;
            columns[ANSWER][size] = answer;
            columns[FOR_WHOM][size] = forWhom;
            size++;
            if (answer == LET) {
                letSize++;
            }
        }

        int read(int i, int what) {
            return isBelow(i, size) && isBelow(what, COLUMNS) ? columns[what][i] : NONE;
        }
    }

    /** A LAW, as it was told. */
    private static final class Law {
        private final int kind;
        private final int worth;
        private final int role;
        private final int sort;
        private final int value;

        /** For a number that can be: canBe(what). */
        Law(int what) {
            kind = what / 10000;
            worth = what / 1000 % 10;
            role = what / 100 % 10;
            sort = what / 10 % 10;
            value = what % 10;
        }

        static boolean canBe(int what) {
            return what >= 0
                && what / 10000 < KINDS
                && what / 1000 % 10 < WORTHS
                && what / 100 % 10 <= ROLE_BITS
                && what / 10 % 10 <= SORTS
                && what % 10 <= BEST_VALUE;
        }

        boolean missesRole(int roles) {
            return role < ROLE_BITS && !hasBit(roles, role);
        }

        boolean missesMark(int marks) {
            return sort < SORTS && valueIn(marks, sort) < value;
        }
    }

    /**
     * All FACTS, sifted by the RULES of one HEAP. A RULE fits FACTS if it fits each of their three
     * parts, so three short rows of bits (bit i: RULE i fits that part) tell it for all 81920.
     */
    private static final class World {
        private final int[] byRoles;
        private final int[] byMarks;
        private final int[] bySpot;
        private final int[] sureBy;
        /** Bit i: RULE i says LET. */
        private int letting;

        World() {
            byRoles = new int[ALL_ROLES];
            byMarks = new int[ALL_MARKS];
            bySpot = new int[ALL_SPOTS];
            sureBy = new int[ALL_MARKS];
        }

        void sift(Heap heap, Marks weights) {
            letting = 0;
            Arrays.fill(byRoles, 0);
            Arrays.fill(byMarks, 0);
            Arrays.fill(bySpot, 0);
            for (int marks = 0; marks < ALL_MARKS; marks++) {
                sureBy[marks] = weights.sureOf(marks);
            }
            for (int i = 0; i < heap.size; i++) {
                Rule rule = heap.ruleAt(i);
                if (rule != null) {
                    siftBy(rule, 1 << i);
                }
            }
        }

        private void siftBy(Rule rule, int bit) {
            if (rule.says == LET) {
                letting |= bit;
            }
            for (int roles = 0; roles < ALL_ROLES; roles++) {
                if (rule.fitsRoles(roles)) {
                    byRoles[roles] |= bit;
                }
            }
            for (int marks = 0; marks < ALL_MARKS; marks++) {
                if (rule.fitsMarks(marks, sureBy[marks])) {
                    byMarks[marks] |= bit;
                }
            }
            for (int spot = 0; spot < ALL_SPOTS; spot++) {
                if (rule.fitsSpot(spot)) {
                    bySpot[spot] |= bit;
                }
            }
        }

        private static int codeOf(int roles, int marks, int spot) {
            return (roles * ALL_MARKS + marks) * ALL_SPOTS + spot;
        }

        int leastBreaking(Law law) {
            for (int roles = 0; roles < ALL_ROLES; roles++) {
                boolean missesRole = law.missesRole(roles);
                for (int marks = 0; marks < ALL_MARKS; marks++) {
                    if (missesRole || law.missesMark(marks)) {
                        int spot = leastLetSpot(byRoles[roles] & byMarks[marks], law);
                        if (spot != NONE) {
                            return codeOf(roles, marks, spot);
                        }
                    }
                }
            }
            return NONE;
        }

        /** The least spot of the LAW's KIND and WORTH at which the first of these RULES lets. */
        private int leastLetSpot(int rules, Law law) {
            if ((rules & letting) == 0) {
                return NONE;
            }
            for (int place = 0; place < PLACES; place++) {
                for (int worth = law.worth; worth < WORTHS; worth++) {
                    int spot = (place * KINDS + law.kind) * WORTHS + worth;
                    int fitting = rules & bySpot[spot];
                    int first = fitting & -fitting;
                    if ((first & letting) != 0) {
                        return spot;
                    }
                }
            }
            return NONE;
        }

        /**
         * Whether a RULE is the first that fits some FACTS. It is enough to look at FACTS with just
         * its own ROLES: with more of them it fits no better, and those before it fit no worse.
         */
        boolean isEverFirst(int rule, int itsRoles) {
            int itself = 1 << rule;
            int upToIt = (itself << 1) - 1;
            int withRoles = byRoles[itsRoles] & upToIt;
            for (int marks = 0; marks < ALL_MARKS; marks++) {
                int withMarks = withRoles & byMarks[marks];
                if ((withMarks & itself) != 0 && isAnyJust(itself, withMarks)) {
                    return true;
                }
            }
            return false;
        }

        private boolean isAnyJust(int itself, int rules) {
            for (int spot = 0; spot < ALL_SPOTS; spot++) {
                if ((rules & bySpot[spot]) == itself) {
                    return true;
                }
            }
            return false;
        }

        /** The three parts are free of one another, so the least code is that of the least parts. */
        int leastFittingAll(int rules) {
            int roles = leastWithAll(byRoles, rules);
            int marks = leastWithAll(byMarks, rules);
            int spot = leastWithAll(bySpot, rules);
            if (roles == NONE || marks == NONE || spot == NONE) {
                return NONE;
            }
            return codeOf(roles, marks, spot);
        }

        private static int leastWithAll(int[] row, int rules) {
            for (int i = 0; i < row.length; i++) {
                if ((row[i] & rules) == rules) {
                    return i;
                }
            }
            return NONE;
        }
    }
}
