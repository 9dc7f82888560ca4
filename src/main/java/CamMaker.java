import java.util.NoSuchElementException;

/** One cam and all that is told of it and asked about it; words in capitals are those of the document. */
public final class CamMaker {
    public static final int NONE = -1;

    // The settings bear the numbers by which count() tells them, and stand in a plan's row in this order.
    private static final int STEPS = 0;
    private static final int SEGMENTS = 1;
    private static final int START = 2;
    private static final int BASE = 3;
    private static final int ROLLER = 4;
    private static final int LOAD = 5;
    private static final int RATE = 6;
    private static final int MASS = 7;
    private static final int SPEED = 8;
    private static final int STEEPEST = 9;
    private static final int SLACK = 10;
    private static final int MARKS = 11;
    private static final int SETTINGS = 12;
    private static final int[] AT_FIRST = {24, 0, 0, 400, 100, 1000, 10, 10, 100, 577, 1, 0};
    private static final int[] LEAST = {24, 0, 0, 10, 1, 0, 0, 1, 0, 0, 0, 0};
    private static final int[] GREATEST = {120, 12, 999, 9999, 9999, 99999, 999, 999, 9999, 9999, 99, 8};

    // What else count() tells.
    private static final int WHOLE = 12;
    private static final int GOOD = 13;
    private static final int DONE = 14;
    private static final int TOGETHER = 15;

    // What a SEGMENT is made of, and what else of() tells of one.
    private static final int LONG = 0;
    private static final int END = 1;
    private static final int LAW = 2;
    private static final int ORIGIN = 3;
    private static final int BEGIN = 4;
    private static final int DWELL = 5;
    private static final int[] LEAST_PART = {1, 0, 0};
    private static final int[] GREATEST_PART = {60, 999, 3};

    // What a MARK is made of, and what else marked() tells of one.
    private static final int MARK_STEP = 0;
    private static final int MARK_LIFT = 1;
    private static final int MARK_WITHIN = 2;
    private static final int MARK_MISS = 3;

    // SEGMENTS and MARKS are made of three numbers each, and follow the settings in a plan's row.
    private static final int PARTS = 3;
    private static final int MOST_SEGMENTS = 12;
    private static final int MOST_MARKS = 8;
    private static final int MARKS_FROM = SETTINGS + MOST_SEGMENTS * PARTS;
    private static final int ROW = MARKS_FROM + MOST_MARKS * PARTS;

    private static final int MOST_STEPS = 120;
    private static final int MOST_MOVING = 6;
    private static final int LAWS = 4;
    private static final int BENT = 1;
    private static final int SMOOTH = 2;
    private static final int SOFT = 3;

    // What a profile holds of each STEP.
    private static final int LIFT = 0;
    private static final int FIRST = 1;
    private static final int SECOND = 2;
    private static final int THIRD = 3;
    private static final int FAR = 4;
    private static final int V = 5;
    private static final int A = 6;
    private static final int BEND = 7;
    private static final int UNDERCUT = 8;
    private static final int PRESS = 9;
    private static final int FORCE = 10;
    private static final int KINDS = 11;

    // What bad() looks for.
    private static final int CUT = 0;
    private static final int CUT_UNKNOWN = 1;
    private static final int STEEP = 2;
    private static final int FLOATS = 3;

    private final Plan plan;
    private final History history;
    private final Profile profile;
    private final Choice choice;

    public CamMaker() {
        Plan told = new Plan();
        plan = told;
        history = new History();
        profile = new Profile(told);
        choice = new Choice(told, new Profile(told));
    }

    public int steps(int n) {
        if (!fits(STEPS, n)) {
            return NONE;
        }
        int were = plan.get(SEGMENTS);
        history.forget();
        outdate();
        plan.put(STEPS, n);
        plan.put(SEGMENTS, 0);
        plan.put(MARKS, 0);
        return were;
    }

    public int segment(int steps, int end, int law) {
        int number = plan.get(SEGMENTS);
        if (number >= MOST_SEGMENTS || !fitsPart(LONG, steps) || !fitsPart(END, end) || !fitsPart(LAW, law)) {
            return NONE;
        }
        remember();
        plan.put(SEGMENTS, number + 1);
        plan.put(Plan.placeOf(number, LONG), steps);
        plan.put(Plan.placeOf(number, END), end);
        plan.put(Plan.placeOf(number, LAW), law);
        return number;
    }

    public int alter(int segment, int what, int v) {
        if (!plan.hasSegment(segment) || !fitsPart(what, v)) {
            return NONE;
        }
        remember();
        return plan.exchange(Plan.placeOf(segment, what), v);
    }

    public int drop() {
        int left = plan.get(SEGMENTS) - 1;
        if (left < 0) {
            return NONE;
        }
        remember();
        plan.put(SEGMENTS, left);
        return left;
    }

    public int start(int lift) {
        return change(START, lift);
    }

    public int base(int radius) {
        return change(BASE, radius);
    }

    public int roller(int radius) {
        return change(ROLLER, radius);
    }

    public boolean spring(int load, int rate, int mass) {
        if (!fits(LOAD, load) || !fits(RATE, rate) || !fits(MASS, mass)) {
            return false;
        }
        remember();
        plan.put(LOAD, load);
        plan.put(RATE, rate);
        plan.put(MASS, mass);
        return true;
    }

    public int speed(int n) {
        return change(SPEED, n);
    }

    public int steepest(int n) {
        return change(STEEPEST, n);
    }

    public int slack(int n) {
        return change(SLACK, n);
    }

    public int mark(int step, int lift, int within) {
        int number = plan.get(MARKS);
        if (number >= MOST_MARKS || !plan.hasStep(step) || !fits(START, lift) || !fits(SLACK, within)) {
            return NONE;
        }
        remember();
        plan.put(MARKS, number + 1);
        plan.put(Plan.placeOfMark(number, MARK_STEP), step);
        plan.put(Plan.placeOfMark(number, MARK_LIFT), lift);
        plan.put(Plan.placeOfMark(number, MARK_WITHIN), within);
        return number;
    }

    public boolean unmark(int mark) {
        if (!plan.hasMark(mark)) {
            return false;
        }
        remember();
        plan.removeMark(mark);
        return true;
    }

    public boolean back() {
        if (history.size() == 0) {
            return false;
        }
        outdate();
        history.restore(plan);
        return true;
    }

    public int of(int segment, int what) {
        if (!plan.hasSegment(segment)) {
            return NONE;
        }
        switch (what) {
            case LONG:
            case END:
            case LAW:
                return plan.get(Plan.placeOf(segment, what));
            case ORIGIN:
                return plan.origin(segment);
            case BEGIN:
                return plan.longAheadOf(segment);
            case DWELL:
                return plan.dwells(segment) ? 1 : 0;
            default:
                return NONE;
        }
    }

    public int lift(int step) {
        return isDrawn() && plan.hasStep(step) ? (int) profile.at(LIFT, step) : NONE;
    }

    public int diff(int step, int which) throws NoSuchElementException {
        if (!isDifference(which) || !isDrawn() || !plan.hasStep(step)) {
            throw new NoSuchElementException();
        }
        return (int) profile.at(which, step);
    }

    public int most(int which, int what) {
        if (!isDifference(which) || !isDrawn()) {
            return NONE;
        }
        switch (what) {
            case 0:
                return profile.greatestSize(which);
            case 1:
                return profile.firstOfSize(which, profile.greatestSize(which));
            case 2:
                return profile.timesOfSize(which, profile.greatestSize(which));
            default:
                return NONE;
        }
    }

    public int border(int segment) {
        if (!plan.hasSegment(segment) || !isDrawn()) {
            return NONE;
        }
        return profile.evenness(plan.longAheadOf(segment));
    }

    public long shape(int step, int what) throws NoSuchElementException {
        if (what < 0 || what > BEND - FAR || !isDrawn() || !plan.hasStep(step)) {
            throw new NoSuchElementException();
        }
        return profile.at(FAR + what, step);
    }

    public int undercut(int step) {
        return isDrawn() && plan.hasStep(step) ? (int) profile.at(UNDERCUT, step) : NONE;
    }

    public int press(int step) {
        return isDrawn() && plan.hasStep(step) ? (int) profile.at(PRESS, step) : NONE;
    }

    public long force(int step) throws NoSuchElementException {
        if (!isDrawn() || !plan.hasStep(step)) {
            throw new NoSuchElementException();
        }
        return profile.at(FORCE, step);
    }

    public int bad(int what, int i) {
        if (what < CUT || what > FLOATS || i < NONE || !isDrawn()) {
            return NONE;
        }
        return i == NONE ? profile.countBad(what) : profile.findBad(what, i);
    }

    public int top(int what) {
        if (!isDrawn()) {
            return NONE;
        }
        switch (what) {
            case 0:
                return (int) profile.at(PRESS, profile.firstGreatest(PRESS));
            case 1:
                return profile.firstGreatest(PRESS);
            case 2:
                return profile.firstLeast(FORCE);
            case 3:
                return (int) profile.at(LIFT, profile.firstGreatest(LIFT));
            case 4:
                return profile.firstGreatest(LIFT);
            case 5:
                return profile.liftTogether();
            default:
                return NONE;
        }
    }

    public int met() {
        return isDrawn() ? profile.metBits() : NONE;
    }

    public int marked(int mark, int what) {
        if (!plan.hasMark(mark) || what < MARK_STEP || what > MARK_MISS) {
            return NONE;
        }
        if (what == MARK_MISS) {
            return isDrawn() ? profile.missOf(mark) : NONE;
        }
        return plan.get(Plan.placeOfMark(mark, what));
    }

    public int best(int what) {
        if (!plan.isWhole() || plan.countMoving() > MOST_MOVING) {
            return NONE;
        }
        choice.refresh();
        if (what >= 0 && what < MOST_SEGMENTS) {
            return plan.hasSegment(what) ? choice.lawOf(what) : NONE;
        }
        switch (what) {
            case 12:
                return choice.second();
            case 13:
                return choice.third();
            case 14:
                return choice.isGood() ? 1 : 0;
            default:
                return NONE;
        }
    }

    public int limit(int what) {
        if (!isDrawn()) {
            return NONE;
        }
        switch (what) {
            case 0:
                return profile.greatestRoller();
            case 1:
                return profile.leastBase();
            case 2:
                return profile.greatestSpeed();
            default:
                return NONE;
        }
    }

    public int count(int what) {
        if (what >= 0 && what < SETTINGS) {
            return plan.get(what);
        }
        switch (what) {
            case WHOLE:
                return plan.isWhole() ? 1 : 0;
            case GOOD:
                return isDrawn() && profile.isGood() ? 1 : 0;
            case DONE:
                return history.size();
            case TOGETHER:
                return plan.longAheadOf(plan.get(SEGMENTS));
            default:
                return NONE;
        }
    }

    private int change(int setting, int v) {
        if (!fits(setting, v)) {
            return NONE;
        }
        remember();
        return plan.exchange(setting, v);
    }

    private void remember() {
        history.keep(plan);
        outdate();
    }

    private void outdate() {
        profile.outdate();
        choice.outdate();
    }

    /** Whether the cam is WHOLE; if so, its profile holds from then on what the plan asks. */
    private boolean isDrawn() {
        if (!plan.isWhole()) {
            return false;
        }
        profile.refresh();
        return true;
    }

    private static boolean isDifference(int which) {
        return which >= FIRST && which <= THIRD;
    }

    private static boolean fits(int setting, int v) {
        return lies(v, setting, LEAST, GREATEST);
    }

    private static boolean fitsPart(int what, int v) {
        return lies(v, what, LEAST_PART, GREATEST_PART);
    }

    private static boolean lies(int v, int place, int[] least, int[] greatest) {
        return place >= 0 && place < least.length && place < greatest.length
                && v >= least[place] && v <= greatest[place];
    }

    /** What was told of a cam. All of it stands in one row, so that taking back is one copy. */
    private static final class Plan {
        private final int[] row = new int[ROW];

        Plan() {
            System.arraycopy(AT_FIRST, 0, row, 0, SETTINGS);
        }

        static int placeOf(int segment, int part) {
            return SETTINGS + PARTS * segment + part;
        }

        static int placeOfMark(int mark, int part) {
            return MARKS_FROM + PARTS * mark + part;
        }

        int get(int place) {
            return place >= 0 && place < row.length ? row[place] : NONE;
        }

        void put(int place, int v) {
            if (place >= 0 && place < row.length) {
                row[place] = v;
            }
        }

        int exchange(int place, int v) {
            int was = get(place);
            put(place, v);
            return was;
        }

        boolean hasStep(int step) {
            return step >= 0 && step < get(STEPS);
        }

        boolean hasSegment(int segment) {
            return segment >= 0 && segment < get(SEGMENTS);
        }

        boolean hasMark(int mark) {
            return mark >= 0 && mark < get(MARKS);
        }

        void removeMark(int mark) {
            int left = get(MARKS) - 1;
            for (int place = placeOfMark(mark, 0); place < placeOfMark(left, 0); place++) {
                put(place, get(place + PARTS));
            }
            put(MARKS, left);
        }

        int origin(int segment) {
            return get(segment == 0 ? START : placeOf(segment - 1, END));
        }

        int longAheadOf(int segment) {
            int sum = 0;
            for (int i = 0; i < segment; i++) {
                sum += get(placeOf(i, LONG));
            }
            return sum;
        }

        boolean dwells(int segment) {
            return get(placeOf(segment, END)) == origin(segment);
        }

        int countMoving() {
            int moving = 0;
            for (int i = 0; i < get(SEGMENTS); i++) {
                moving += dwells(i) ? 0 : 1;
            }
            return moving;
        }

        boolean isWhole() {
            int count = get(SEGMENTS);
            return count > 0 && longAheadOf(count) == get(STEPS) && get(placeOf(count - 1, END)) == get(START);
        }

        void copyTo(int[] rows, int from) {
            if (from >= 0 && from <= rows.length - ROW) {
                System.arraycopy(row, 0, rows, from, ROW);
            }
        }

        void copyFrom(int[] rows, int from) {
            if (from >= 0 && from <= rows.length - ROW) {
                System.arraycopy(rows, from, row, 0, ROW);
            }
        }
    }

    /** The plans ahead of each of the last things that were done, in a ring of rows. */
    private static final class History {
        private static final int LAST = 20;

        private final int[] rows = new int[LAST * ROW];
        private int kept;
        private int next;

        int size() {
            return kept;
        }

        void forget() {
            kept = 0;
        }

        void keep(Plan plan) {
            plan.copyTo(rows, next * ROW);
            next = next + 1 < LAST ? next + 1 : 0;
            kept = Math.min(kept + 1, LAST);
        }

        void restore(Plan plan) {
            if (kept > 0) {
                next = next > 0 ? next - 1 : LAST - 1;
                kept--;
                plan.copyFrom(rows, next * ROW);
            }
        }
    }

    /** What follows from a WHOLE plan at each STEP, by the plan's LAWS or by others that are tried. */
    private static final class Profile {
        // The greatest number whose third power is a long, and the greatest one whose square is.
        private static final long MOST_CUBED = 2097151L;
        private static final long MOST_SQUARED = 3037000499L;
        // The greatest FAR whose square is no more than MOST_CUBED.
        private static final int MOST_FAR = 1448;

        private final Plan plan;
        private final long[][] held = new long[KINDS][MOST_STEPS];
        private int steps;
        private boolean fresh;

        Profile(Plan plan) {
            this.plan = plan;
        }

        void outdate() {
            fresh = false;
        }

        void refresh() {
            if (!fresh) {
                fresh = true;
                draw();
                for (int i = 0; i < steps; i++) {
                    measure(i);
                }
            }
        }

        /** What is held of a STEP, whose number may be told with a round too few or too many. */
        long at(int kind, int i) {
            int step = i < 0 ? i + steps : i >= steps ? i - steps : i;
            return kind >= 0 && kind < KINDS && step >= 0 && step < MOST_STEPS ? held[kind][step] : 0;
        }

        private void put(int kind, int step, long v) {
            if (kind >= 0 && kind < KINDS && step >= 0 && step < MOST_STEPS) {
                held[kind][step] = v;
            }
        }

        /** Finds every LIFT by the plan's own LAWS. */
        void draw() {
            steps = plan.get(STEPS);
            for (int segment = 0; segment < plan.get(SEGMENTS); segment++) {
                drawBy(plan.get(Plan.placeOf(segment, LAW)), segment);
            }
        }

        void drawBy(int law, int segment) {
            int begin = plan.longAheadOf(segment);
            int n = plan.get(Plan.placeOf(segment, LONG));
            int from = plan.origin(segment);
            int rise = plan.get(Plan.placeOf(segment, END)) - from;
            for (int k = 0; k < n; k++) {
                put(LIFT, begin + k, from + riseBy(law, rise, k, n));
            }
        }

        private static long riseBy(int law, long rise, long k, long n) {
            long share = k;
            long all = n;
            switch (law) {
                case BENT:
                    all = n * n;
                    share = 2 * k <= n ? 2 * k * k : all - 2 * (n - k) * (n - k);
                    break;
                case SMOOTH:
                    all = n * n * n * n * n;
                    share = k * k * k * (10 * n * n - 15 * k * n + 6 * k * k);
                    break;
                case SOFT:
                    all = n * n * n * n * n * n * n;
                    share = k * k * k * k * (35 * n * n * n - 84 * k * n * n + 70 * k * k * n - 20 * k * k * k);
                    break;
                default:
                    break;
            }
            // Half of all is added ahead of the cut downwards: so of two nearest ones the greater one is taken.
            return all > 0 ? Math.floorDiv(2 * rise * share + all, 2 * all) : 0;
        }

        /** Finds all that follows at a STEP from the LIFTS round it. */
        void measure(int i) {
            long here = at(LIFT, i);
            long last = at(LIFT, i - 1);
            long next = at(LIFT, i + 1);
            long second = next - 2 * here + last;
            long secondOfNext = at(LIFT, i + 2) - 2 * next + here;
            put(FIRST, i, next - here);
            put(SECOND, i, second);
            put(THIRD, i, secondOfNext - second);
            long v = Math.floorDiv((next - last) * 113 * steps, 1420L);
            long a = Math.floorDiv(second * 12769 * steps * steps, 504100L);
            put(V, i, v);
            put(A, i, a);
            measureRoller(i, v, a);
            long speed = plan.get(SPEED);
            put(FORCE, i, rest(i) + Math.floorDiv(plan.get(MASS) * speed * speed * second, 1000L));
        }

        private void measureRoller(int i, long v, long a) {
            int roller = plan.get(ROLLER);
            long far = plan.get(BASE) + roller + at(LIFT, i);
            long bend = bend(far, v, a);
            put(FAR, i, far);
            put(BEND, i, bend);
            put(UNDERCUT, i, undercutOf(roller, far * far + v * v, bend));
            put(PRESS, i, far > 0 ? 1000 * Math.abs(v) / far : 0);
        }

        private static long bend(long far, long v, long a) {
            return far * far + 2 * v * v - far * a;
        }

        private static int undercutOf(long roller, long sum, long bend) {
            if (bend <= 0) {
                return 0;
            }
            long product = roller * bend;
            if (sum > MOST_CUBED || product > MOST_SQUARED) {
                return 2;
            }
            return sum * sum * sum < product * product ? 1 : 0;
        }

        /** FORCE of a STEP while the cam stands still. */
        private long rest(int i) {
            return plan.get(LOAD) + plan.get(RATE) * at(LIFT, i);
        }

        int greatestSize(int which) {
            long greatest = 0;
            for (int i = 0; i < steps; i++) {
                greatest = Math.max(greatest, Math.abs(at(which, i)));
            }
            return (int) greatest;
        }

        int firstOfSize(int which, int size) {
            for (int i = 0; i < steps; i++) {
                if (Math.abs(at(which, i)) == size) {
                    return i;
                }
            }
            return NONE;
        }

        int timesOfSize(int which, int size) {
            int times = 0;
            for (int i = 0; i < steps; i++) {
                times += Math.abs(at(which, i)) == size ? 1 : 0;
            }
            return times;
        }

        int evenness(int step) {
            int slack = plan.get(SLACK);
            int k = 0;
            while (k < THIRD && Math.abs(at(k + 1, step) - at(k + 1, step - 1)) <= slack) {
                k++;
            }
            return k;
        }

        private boolean isBad(int what, int i) {
            switch (what) {
                case CUT:
                    return at(UNDERCUT, i) == 1;
                case CUT_UNKNOWN:
                    return at(UNDERCUT, i) == 2;
                case STEEP:
                    return at(PRESS, i) > plan.get(STEEPEST);
                default:
                    return at(FORCE, i) < 0;
            }
        }

        int countBad(int what) {
            int sum = 0;
            for (int i = 0; i < steps; i++) {
                sum += isBad(what, i) ? 1 : 0;
            }
            return sum;
        }

        int findBad(int what, int number) {
            int ahead = 0;
            for (int i = 0; i < steps; i++) {
                if (isBad(what, i)) {
                    if (ahead == number) {
                        return i;
                    }
                    ahead++;
                }
            }
            return NONE;
        }

        int firstGreatest(int kind) {
            int first = 0;
            for (int i = 1; i < steps; i++) {
                first = at(kind, i) > at(kind, first) ? i : first;
            }
            return first;
        }

        int firstLeast(int kind) {
            int first = 0;
            for (int i = 1; i < steps; i++) {
                first = at(kind, i) < at(kind, first) ? i : first;
            }
            return first;
        }

        int liftTogether() {
            int sum = 0;
            for (int i = 0; i < steps; i++) {
                sum += (int) at(LIFT, i);
            }
            return sum;
        }

        int missOf(int mark) {
            long lift = at(LIFT, plan.get(Plan.placeOfMark(mark, MARK_STEP)));
            return (int) Math.abs(lift - plan.get(Plan.placeOfMark(mark, MARK_LIFT)));
        }

        int metBits() {
            int bits = 0;
            for (int mark = 0; mark < plan.get(MARKS); mark++) {
                bits |= missOf(mark) <= plan.get(Plan.placeOfMark(mark, MARK_WITHIN)) ? 1 << mark : 0;
            }
            return bits;
        }

        /** Whether nothing at this STEP stands against GOOD; the MARKS there count, too. */
        boolean isGoodAt(int i) {
            if (at(UNDERCUT, i) != 0 || isBad(STEEP, i) || isBad(FLOATS, i)) {
                return false;
            }
            for (int mark = 0; mark < plan.get(MARKS); mark++) {
                if (plan.get(Plan.placeOfMark(mark, MARK_STEP)) == i
                        && missOf(mark) > plan.get(Plan.placeOfMark(mark, MARK_WITHIN))) {
                    return false;
                }
            }
            return true;
        }

        boolean isGood() {
            for (int i = 0; i < steps; i++) {
                if (!isGoodAt(i)) {
                    return false;
                }
            }
            return true;
        }

        int greatestRoller() {
            // All SECONDS together are 0, so one STEP at least has no A above 0: its BEND is above 0, and a
            // ROLLER that makes its FAR more than MOST_FAR gives it UNDERCUT 2.
            int most = Math.min(GREATEST[ROLLER], Math.max(0, MOST_FAR - plan.get(BASE)));
            for (int i = 0; i < steps; i++) {
                most = isCalm(i) ? lowerToClear(i, most) : most;
            }
            for (int i = 0; i < steps; i++) {
                most = isCalm(i) ? most : clearUpTo(i, most);
            }
            return most;
        }

        /**
         * A calm STEP has UNDERCUT from one ROLLER on by all greater ones. For with c for BASE and LIFT, r for the
         * ROLLER, F for FAR, and S for F F + V V: F S less r BEND is c F F + V V (c - r) + r F A, which is above 0
         * if neither V nor A is greater than c in size. Then S S S is greater than r r BEND BEND, so that no ROLLER
         * gives UNDERCUT 1; and S and r BEND grow with r, so that UNDERCUT 2 stays.
         */
        private boolean isCalm(int i) {
            long c = plan.get(BASE) + at(LIFT, i);
            return Math.abs(at(V, i)) <= c && Math.abs(at(A, i)) <= c;
        }

        private int lowerToClear(int i, int most) {
            int roller = most;
            while (roller > 0 && undercutBy(roller, i) != 0) {
                roller--;
            }
            return roller;
        }

        private int clearUpTo(int i, int most) {
            for (int roller = 1; roller <= most; roller++) {
                if (undercutBy(roller, i) != 0) {
                    return roller - 1;
                }
            }
            return most;
        }

        private int undercutBy(int roller, int i) {
            long far = plan.get(BASE) + roller + at(LIFT, i);
            long v = at(V, i);
            return undercutOf(roller, far * far + v * v, bend(far, v, at(A, i)));
        }

        int leastBase() {
            long least = LEAST[BASE];
            long divisor = plan.get(STEEPEST) + 1L;
            for (int i = 0; i < steps && divisor > 0; i++) {
                long far = 1000 * Math.abs(at(V, i)) / divisor + 1;
                least = Math.max(least, far - plan.get(ROLLER) - at(LIFT, i));
            }
            return least <= GREATEST[BASE] ? (int) least : NONE;
        }

        int greatestSpeed() {
            long square = (long) GREATEST[SPEED] * GREATEST[SPEED];
            for (int i = 0; i < steps; i++) {
                long pull = plan.get(MASS) * -at(SECOND, i);
                if (pull > 0) {
                    square = Math.min(square, 1000 * rest(i) / pull);
                }
            }
            int root = 0;
            for (int bit = 1 << 13; bit > 0; bit >>= 1) {
                long tried = root + bit;
                root += tried * tried <= square ? bit : 0;
            }
            return root;
        }
    }

    /**
     * The BEST laws. LIFT at a BORDER is the same by every LAW, so what is measured at a STEP hangs on two LAWS at
     * most: from one SEGMENT that its LAW bends to the next such one is a link, and each link is measured once for
     * every pair of LAWS at its ends. All ways are then compared by these measures alone.
     */
    private static final class Choice {
        private static final int PAIRS = LAWS * LAWS;

        private final Plan plan;
        private final Profile trial;
        private final int[] bent = new int[MOST_MOVING];
        private final int[] seconds = new int[MOST_MOVING * PAIRS];
        private final int[] thirds = new int[MOST_MOVING * PAIRS];
        private final boolean[] goods = new boolean[MOST_MOVING * PAIRS];
        private int size;
        private int links;
        private int bestWay;
        private int bestSecond;
        private int bestThird;
        private boolean bestGood;
        private boolean fresh;

        Choice(Plan plan, Profile trial) {
            this.plan = plan;
            this.trial = trial;
        }

        void outdate() {
            fresh = false;
        }

        void refresh() {
            if (!fresh) {
                fresh = true;
                findBent();
                trial.draw();
                for (int link = 0; link < links; link++) {
                    measureLink(link);
                }
                compareAll();
            }
        }

        int second() {
            return bestSecond;
        }

        int third() {
            return bestThird;
        }

        boolean isGood() {
            return bestGood;
        }

        int lawOf(int segment) {
            if (plan.dwells(segment)) {
                return plan.get(Plan.placeOf(segment, LAW));
            }
            for (int j = 0; j < size && j < bent.length; j++) {
                if (bent[j] == segment) {
                    return lawIn(bestWay, j);
                }
            }
            return 0;
        }

        private void findBent() {
            size = 0;
            for (int i = 0; i < plan.get(SEGMENTS); i++) {
                // A SEGMENT of one STEP is all BORDER: no LAW bends it, and the first row gives it the first one.
                if (!plan.dwells(i) && plan.get(Plan.placeOf(i, LONG)) > 1 && size < bent.length) {
                    bent[size] = i;
                    size++;
                }
            }
            links = Math.max(1, size);
        }

        private void measureLink(int link) {
            int steps = plan.get(STEPS);
            if (size == 0) {
                measurePair(0, 0, steps);
                return;
            }
            int next = link + 1 < size ? link + 1 : 0;
            if (link < 0 || link >= bent.length || next >= bent.length) {
                return;
            }
            int from = plan.longAheadOf(bent[link]);
            int span = plan.longAheadOf(bent[next]) - from;
            for (int p = 0; p < LAWS; p++) {
                trial.drawBy(p, bent[link]);
                for (int q = 0; q < LAWS; q++) {
                    trial.drawBy(q, bent[next]);
                    measurePair(link * PAIRS + p * LAWS + q, from, span > 0 ? span : span + steps);
                }
            }
        }

        /** Measures the STEPS behind the BORDER from which a link comes, up to the BORDER to which it goes. */
        private void measurePair(int cell, int from, int span) {
            int steps = plan.get(STEPS);
            long second = 0;
            long third = 0;
            boolean good = true;
            for (int k = 1; k <= span; k++) {
                int i = from + k < steps ? from + k : from + k - steps;
                trial.measure(i);
                second = Math.max(second, Math.abs(trial.at(SECOND, i)));
                third = Math.max(third, Math.abs(trial.at(THIRD, i)));
                good = good && trial.isGoodAt(i);
            }
            if (cell >= 0 && cell < goods.length) {
                seconds[cell] = (int) second;
                thirds[cell] = (int) third;
                goods[cell] = good;
            }
        }

        /** A way bears all its LAWS, two bits each, the first one highest: so the ways follow as the rows do. */
        private int lawIn(int way, int j) {
            return j < size ? way >> 2 * (size - 1 - j) & 3 : 0;
        }

        private void compareAll() {
            bestWay = NONE;
            for (int way = 0; way < 1 << 2 * size; way++) {
                compare(way);
            }
        }

        private void compare(int way) {
            int second = 0;
            int third = 0;
            boolean good = true;
            int p = lawIn(way, 0);
            for (int link = 0; link < links; link++) {
                int q = lawIn(way, link + 1 < links ? link + 1 : 0);
                int cell = link * PAIRS + p * LAWS + q;
                if (cell >= 0 && cell < goods.length) {
                    second = Math.max(second, seconds[cell]);
                    third = Math.max(third, thirds[cell]);
                    good = good && goods[cell];
                }
                p = q;
            }
            if (bestWay == NONE || isBetter(good, second, third)) {
                bestWay = way;
                bestSecond = second;
                bestThird = third;
                bestGood = good;
            }
        }

        private boolean isBetter(boolean good, int second, int third) {
            if (good != bestGood) {
                return good;
            }
            return second < bestSecond || second == bestSecond && third < bestThird;
        }
    }
}
