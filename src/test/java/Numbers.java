/** Makes the numbers that the document packs: who, what and where of a RULE, what of a LAW, codes of FACTS. */
final class Numbers {
    /** The where of a RULE that fits every PLACE, KIND and WORTH. */
    static final int ANYWHERE = where(15, 15, 0, 4);
    /** The what of a RULE that fits all ROLES and MARKS. */
    static final int ANYBODY = what(0, 3, 0, 0);
    static final int LET = 0;
    static final int STEP_UP = 1;
    static final int SHUT = 2;
    static final int NONE = -1;
    static final int LEAST_INT = Integer.MIN_VALUE;
    static final int MOST_INT = Integer.MAX_VALUE;

    private Numbers() {
    }

    static int who(int person, int machine, int thing, int place) {
        return person * 1000 + machine * 100 + thing * 10 + place;
    }

    static int what(int roles, int sort, int value, int sure) {
        return roles * 10000 + sort * 1000 + value * 100 + sure;
    }

    static int where(int places, int kinds, int least, int most) {
        return places * 10000 + kinds * 100 + least * 10 + most;
    }

    static int law(int kind, int worth, int role, int sort, int value) {
        return kind * 10000 + worth * 1000 + role * 100 + sort * 10 + value;
    }

    static int code(int roles, int first, int second, int third, int place, int kind, int worth) {
        return (((((roles * 4 + first) * 4 + second) * 4 + third) * 4 + place) * 4 + kind) * 5 + worth;
    }

    /** Lets so many TICKS pass, also more than one go allows. */
    static void pass(AskTrust x, int ticks) {
        for (int left = ticks; left > 0; left -= 200) {
            x.go(Math.min(left, 200));
        }
    }
}
