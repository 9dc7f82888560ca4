import java.util.ArrayList;
import java.util.List;

/**
 * What each promise answers to others, when there is none, when there are twelve or eight, when it is not WHOLE; and
 * that nothing is changed by a call that is refused, nor by one that only asks.
 */
public final class EdgesOfPromisesTest extends Checks {
    private static final long THROWS = Long.MIN_VALUE;

    private interface Maker {
        CamMaker make();
    }

    private interface On {
        long answer(CamMaker x);
    }

    /** A call that is to answer the same in a state as the document says, and to change nothing. */
    private static final class Refused {
        private final int promise;
        private final String words;
        private final long want;
        private final On call;

        Refused(int promise, String words, long want, On call) {
            this.promise = promise;
            this.words = words;
            this.want = want;
            this.call = call;
        }
    }

    private static final List<Refused> REFUSED = new ArrayList<>();

    public static void main(String[] args) {
        inState("new", CamMaker::new, 0, 0, false);
        inState("not WHOLE", EdgesOfPromisesTest::notWhole, 3, 2, false);
        inState("WHOLE", EdgesOfPromisesTest::whole, 4, 2, true);
        inState("full", EdgesOfPromisesTest::full, 12, 8, true);
        inState("full, with all done", EdgesOfPromisesTest::fullAndDone, 12, 8, true);
        inState("of 120 STEPS, not WHOLE by START", EdgesOfPromisesTest::otherStart, 2, 0, false);
        newObject();
        askingChangesNothing();
        stepsTakesAllAway();
        lastSegmentGoes();
        numbersBehindOneThatGoes();
        iThOfTheBad();
        firstOfTheMost();
        bestOfMoving();
        bestOfNoSuch();
        greatestRoller();
        leastBase();
        greatestSpeed();
        notWholeAnyLonger();
        end();
    }

    private static CamMaker notWhole() {
        CamMaker x = Cams.sample();
        x.mark(3, 6, 0);
        x.mark(9, 11, 2);
        x.drop();
        return x;
    }

    private static CamMaker whole() {
        CamMaker x = Cams.sample();
        x.mark(3, 6, 0);
        x.mark(9, 10, 1);
        return x;
    }

    private static CamMaker full() {
        CamMaker x = new CamMaker();
        for (int i = 0; i < 12; i++) {
            x.segment(2, i < 6 ? 9 * i : 0, i % 4);
        }
        for (int i = 0; i < 8; i++) {
            x.mark(i, i, 9 * i);
        }
        return x;
    }

    private static CamMaker fullAndDone() {
        CamMaker x = full();
        for (int i = 0; i < 9; i++) {
            x.base(500 + i);
            x.slack(i);
        }
        return x;
    }

    private static CamMaker otherStart() {
        CamMaker x = Cams.cam(0, new int[] {60, 999, 3}, new int[] {60, 0, 2});
        x.start(1);
        return x;
    }

    private static long answerOf(On call, CamMaker x) {
        long[] answer = {THROWS};
        try {
            answer[0] = call.answer(x);
        } catch (java.util.NoSuchElementException e) {
            due("the class of " + e, 1, e.getClass() == java.util.NoSuchElementException.class ? 1 : 0);
        }
        return answer[0];
    }

    /** All that is told of a cam, and what follows at some STEPS, by some 200 calls. */
    private static String seen(CamMaker x) {
        StringBuilder all = new StringBuilder();
        for (int what = 0; what < 16; what++) {
            all.append(x.count(what)).append(' ');
        }
        for (int i = 0; i < x.count(1); i++) {
            all.append(x.of(i, 0)).append('/').append(x.of(i, 1)).append('/').append(x.of(i, 2)).append(' ');
        }
        for (int i = 0; i < x.count(11); i++) {
            all.append(x.marked(i, 0)).append('/').append(x.marked(i, 1)).append('/').append(x.marked(i, 2));
            all.append('/').append(x.marked(i, 3)).append(' ');
        }
        for (int step = 0; step < 24; step++) {
            all.append(x.lift(step)).append('/').append(x.undercut(step)).append('/').append(x.press(step)).append(' ');
        }
        for (int what = 0; what < 15; what++) {
            all.append(x.best(what)).append(' ');
        }
        for (int what = 0; what < 6; what++) {
            all.append(x.limit(what)).append('/').append(x.top(what)).append('/').append(x.bad(what, NONE)).append(' ');
        }
        return all.append(x.met()).toString();
    }

    /** What is told of a cam all the way back, by up to 441 calls: few enough, with those that make it. */
    private static String wayBack(CamMaker x) {
        StringBuilder all = new StringBuilder();
        boolean more = true;
        while (more) {
            for (int what = 0; what < 16; what++) {
                all.append(x.count(what)).append(' ');
            }
            int last = x.count(1) - 1;
            all.append(x.of(last, 1)).append(' ').append(x.marked(x.count(11) - 1, 1)).append("; ");
            more = x.back();
        }
        return all.toString();
    }

    /** Every call that is refused in a state answers so, and behind it all is as without it. */
    private static void inState(String state, Maker maker, int segments, int marks, boolean isWhole) {
        REFUSED.clear();
        int steps = maker.make().count(0);
        tellingOthers(segments, marks, steps);
        askingOthers(segments, marks, steps);
        if (!isWhole) {
            askingWhole();
        }
        about(state);
        due("count 1", segments, maker.make().count(1));
        due("count 11", marks, maker.make().count(11));
        due("count 12", isWhole, maker.make().count(12) == 1);
        String due = seen(maker.make());
        String back = wayBack(maker.make());
        for (Refused r : REFUSED) {
            about("promise " + r.promise + ", state " + state);
            CamMaker x = maker.make();
            due(r.words, r.want, answerOf(r.call, x));
            due("what is seen behind " + r.words, due, seen(x));
            CamMaker y = maker.make();
            answerOf(r.call, y);
            due("the way back behind " + r.words, back, wayBack(y));
        }
    }

    private static void refuse(int promise, String words, On call) {
        REFUSED.add(new Refused(promise, words, NONE, call));
    }

    private static void refuse(int promise, String words, long want, On call) {
        REFUSED.add(new Refused(promise, words, want, call));
    }

    /** Numbers below the least and above the greatest. */
    private static int[] beyond(int least, int greatest) {
        return new int[] {MIN, -greatest - 2, least - 1, greatest + 1, MAX};
    }

    private static void tellingOthers(int segments, int marks, int steps) {
        for (int v : beyond(24, 120)) {
            refuse(2, "steps " + v, x -> x.steps(v));
        }
        others(3, "segment LONG ", beyond(1, 60), (x, v) -> x.segment(v, 5, 0));
        others(3, "segment END ", beyond(0, 999), (x, v) -> x.segment(5, v, 0));
        others(3, "segment LAW ", beyond(0, 3), (x, v) -> x.segment(5, 5, v));
        if (segments == 12) {
            refuse(3, "segment, 12 there are", x -> x.segment(5, 5, 0));
        }
        for (int what = 0; what < 3; what++) {
            int part = what;
            others(4, "alter " + what + " of SEGMENT ", beyond(0, segments - 1), (x, v) -> x.alter(v, part, 2));
        }
        if (segments > 0) {
            int last = segments - 1;
            others(4, "alter what ", beyond(0, 2), (x, v) -> x.alter(last, v, 2));
            others(4, "alter LONG to ", beyond(1, 60), (x, v) -> x.alter(last, 0, v));
            others(4, "alter END to ", beyond(0, 999), (x, v) -> x.alter(last, 1, v));
            others(4, "alter LAW to ", beyond(0, 3), (x, v) -> x.alter(last, 2, v));
        } else {
            refuse(5, "drop, there is none", x -> x.drop());
            refuse(15, "back, nothing can be", 0, x -> x.back() ? 1 : 0);
        }
        tellingOtherSettings();
        tellingOtherMarks(marks, steps);
    }

    private interface OnOne {
        long answer(CamMaker x, int v);
    }

    private static void others(int promise, String words, int[] values, OnOne call) {
        for (int v : values) {
            refuse(promise, words + v, x -> call.answer(x, v));
        }
    }

    private static void tellingOtherSettings() {
        others(6, "start ", beyond(0, 999), (x, v) -> x.start(v));
        others(7, "base ", beyond(10, 9999), (x, v) -> x.base(v));
        others(8, "roller ", beyond(1, 9999), (x, v) -> x.roller(v));
        for (int v : beyond(0, 99999)) {
            refuse(9, "spring LOAD " + v, 0, x -> x.spring(v, 1, 1) ? 1 : 0);
        }
        for (int v : beyond(0, 999)) {
            refuse(9, "spring RATE " + v, 0, x -> x.spring(1, v, 1) ? 1 : 0);
        }
        for (int v : beyond(1, 999)) {
            refuse(9, "spring MASS " + v, 0, x -> x.spring(1, 1, v) ? 1 : 0);
        }
        others(10, "speed ", beyond(0, 9999), (x, v) -> x.speed(v));
        others(11, "steepest ", beyond(0, 9999), (x, v) -> x.steepest(v));
        others(12, "slack ", beyond(0, 99), (x, v) -> x.slack(v));
    }

    private static void tellingOtherMarks(int marks, int steps) {
        others(13, "mark STEP ", beyond(0, steps - 1), (x, v) -> x.mark(v, 5, 5));
        others(13, "mark lift ", beyond(0, 999), (x, v) -> x.mark(5, v, 5));
        others(13, "mark WITHIN ", beyond(0, 99), (x, v) -> x.mark(5, 5, v));
        if (marks == 8) {
            refuse(13, "mark, eight there are", x -> x.mark(5, 5, 5));
        }
        for (int v : beyond(0, marks - 1)) {
            refuse(14, "unmark " + v, 0, x -> x.unmark(v) ? 1 : 0);
        }
    }

    private static void askingOthers(int segments, int marks, int steps) {
        for (int what = 0; what < 6; what++) {
            int asked = what;
            others(16, "of " + what + " of SEGMENT ", beyond(0, segments - 1), (x, v) -> x.of(v, asked));
            others(28, "marked " + what + " of ", beyond(0, marks - 1), (x, v) -> x.marked(v, asked));
        }
        others(16, "of what ", beyond(0, 5), (x, v) -> x.of(segments - 1, v));
        others(28, "marked what ", beyond(0, 3), (x, v) -> x.marked(marks - 1, v));
        others(17, "lift ", beyond(0, steps - 1), (x, v) -> x.lift(v));
        others(19, "most of ", beyond(1, 3), (x, v) -> x.most(v, 0));
        others(19, "most what ", beyond(0, 2), (x, v) -> x.most(1, v));
        others(20, "border ", beyond(0, segments - 1), (x, v) -> x.border(v));
        others(22, "undercut ", beyond(0, steps - 1), (x, v) -> x.undercut(v));
        others(23, "press ", beyond(0, steps - 1), (x, v) -> x.press(v));
        for (int v : beyond(0, steps - 1)) {
            refuse(18, "diff of STEP " + v, THROWS, x -> x.diff(v, 1));
            refuse(21, "shape of STEP " + v, THROWS, x -> x.shape(v, 0));
            refuse(24, "force of STEP " + v, THROWS, x -> x.force(v));
        }
        for (int v : beyond(1, 3)) {
            refuse(18, "diff which " + v, THROWS, x -> x.diff(steps - 1, v));
        }
        for (int v : beyond(0, 3)) {
            refuse(21, "shape what " + v, THROWS, x -> x.shape(steps - 1, v));
        }
        others(25, "bad what ", beyond(0, 3), (x, v) -> x.bad(v, 0));
        others(25, "how many bad what ", beyond(0, 3), (x, v) -> x.bad(v, NONE));
        for (int what = 0; what < 4; what++) {
            int bad = what;
            others(25, "bad " + what + " i ", new int[] {MIN, -2, 24, 120, MAX}, (x, v) -> x.bad(bad, v));
        }
        others(26, "top ", beyond(0, 5), (x, v) -> x.top(v));
        others(29, "best ", beyond(0, 14), (x, v) -> x.best(v));
        for (int i = segments; i < 12; i++) {
            int none = i;
            refuse(29, "best " + i + ", none such", x -> x.best(none));
        }
        others(30, "limit ", beyond(0, 2), (x, v) -> x.limit(v));
        others(31, "count ", beyond(0, 15), (x, v) -> x.count(v));
    }

    /** All that wants a WHOLE cam, by numbers that would do there. */
    private static void askingWhole() {
        refuse(17, "lift 0, not WHOLE", x -> x.lift(0));
        refuse(20, "border 0, not WHOLE", x -> x.border(0));
        refuse(22, "undercut 0, not WHOLE", x -> x.undercut(0));
        refuse(23, "press 0, not WHOLE", x -> x.press(0));
        refuse(24, "force 0, not WHOLE", THROWS, x -> x.force(0));
        refuse(27, "met, not WHOLE", x -> x.met());
        refuse(28, "marked 0 3, not WHOLE", x -> x.marked(0, 3));
        refuse(31, "count 12, not WHOLE", 0, x -> x.count(12));
        refuse(31, "count 13, not WHOLE", 0, x -> x.count(13));
        for (int i = 0; i < 15; i++) {
            int what = i;
            refuse(29, "best " + i + ", not WHOLE", x -> x.best(what));
        }
        for (int i = 0; i < 6; i++) {
            int what = i;
            refuse(26, "top " + i + ", not WHOLE", x -> x.top(what));
        }
        for (int i = 0; i < 4; i++) {
            int what = i;
            refuse(25, "bad " + i + " NONE, not WHOLE", x -> x.bad(what, NONE));
            refuse(25, "bad " + i + " 0, not WHOLE", x -> x.bad(what, 0));
            refuse(21, "shape 0 " + i + ", not WHOLE", THROWS, x -> x.shape(0, what));
        }
        for (int i = 0; i < 3; i++) {
            int what = i;
            refuse(30, "limit " + i + ", not WHOLE", x -> x.limit(what));
            refuse(18, "diff 0 " + (1 + i) + ", not WHOLE", THROWS, x -> x.diff(0, 1 + what));
            refuse(19, "most " + (1 + i) + " 0, not WHOLE", x -> x.most(1 + what, 0));
            refuse(19, "most 1 " + i + ", not WHOLE", x -> x.most(1, what));
        }
    }

    private static void newObject() {
        about("promise 1: No SEGMENT");
        CamMaker x = new CamMaker();
        CamMaker y = new CamMaker();
        due("segment of another one", 0, y.segment(24, 0, 0));
        due("base of another one", 400, y.base(500));
        due("count 1", 0, x.count(1));
        due("count 3", 400, x.count(3));
        due("count 14", 0, x.count(14));
        due("count 15", 0, x.count(15));
        due("lift 0 of the other one", 0, y.lift(0));
        due("lift 0", NONE, x.lift(0));
    }

    private static void askingChangesNothing() {
        Maker[] makers = {CamMaker::new, EdgesOfPromisesTest::notWhole, EdgesOfPromisesTest::whole,
            EdgesOfPromisesTest::full, EdgesOfPromisesTest::fullAndDone};
        for (int i = 0; i < makers.length; i++) {
            about("what is asked changes nothing, state " + i);
            CamMaker x = makers[i].make();
            String first = seen(x);
            String back = wayBack(makers[i].make());
            CamMaker y = makers[i].make();
            for (int step = 0; step < 3; step++) {
                int asked = step;
                answerOf(cam -> cam.diff(asked, 1 + asked), y);
                answerOf(cam -> cam.shape(asked, asked), y);
                answerOf(cam -> cam.force(asked), y);
                y.most(1 + step, step);
                y.border(step);
                y.best(12 + step);
                y.limit(step);
            }
            due("the way back", back, wayBack(y));
            due("what is seen of a new one", first, seen(makers[i].make()));
        }
    }

    private static void stepsTakesAllAway() {
        about("promise 2: no SEGMENTS, no MARKS; nothing can be taken BACK: how many SEGMENTS there were");
        for (int n : new int[] {24, 25, 120}) {
            CamMaker x = fullAndDone();
            due("count 14", 20, x.count(14));
            due("steps " + n, 12, x.steps(n));
            due("steps " + n + " again", 0, x.steps(n));
            due("count 0", n, x.count(0));
            due("count 1", 0, x.count(1));
            due("count 11", 0, x.count(11));
            due("count 14", 0, x.count(14));
            due("count 15", 0, x.count(15));
            due("count 3 stays", 508, x.count(3));
            due("back", false, x.back());
            due("of 0 0", NONE, x.of(0, 0));
            due("marked 0 0", NONE, x.marked(0, 0));
            due("the first segment", 0, x.segment(12, 9, 0));
            due("of 0 3", 0, x.of(0, 3));
            due("the first mark", 0, x.mark(n - 1, 0, 0));
            due("count 14", 2, x.count(14));
            due("back", true, x.back());
            due("back", true, x.back());
            due("back, no further than steps", false, x.back());
        }
    }

    private static void lastSegmentGoes() {
        about("promise 5: The last SEGMENT goes: how many are left; NONE: there is none");
        CamMaker x = full();
        for (int left = 11; left >= 0; left--) {
            due("drop", left, x.drop());
            due("count 1", left, x.count(1));
            due("of " + left + " 0", NONE, x.of(left, 0));
            due("count 15", 2 * left, x.count(15));
        }
        due("drop", NONE, x.drop());
        due("back", true, x.back());
        due("count 1", 1, x.count(1));
        due("of 0 2", 0, x.of(0, 2));
    }

    private static void numbersBehindOneThatGoes() {
        about("promise 14: A MARK goes (those behind it are one lower)");
        for (int gone = 0; gone < 8; gone++) {
            CamMaker x = full();
            due("unmark " + gone, true, x.unmark(gone));
            due("count 11", 7, x.count(11));
            for (int i = 0; i < 7; i++) {
                int was = i < gone ? i : i + 1;
                due("marked " + i + " 0 behind unmark " + gone, was, x.marked(i, 0));
                due("marked " + i + " 1 behind unmark " + gone, was, x.marked(i, 1));
                due("marked " + i + " 2 behind unmark " + gone, 9 * was, x.marked(i, 2));
            }
            due("marked 7 0", NONE, x.marked(7, 0));
            due("unmark 7", false, x.unmark(7));
            due("the eighth again", 7, x.mark(20, 21, 22));
            due("marked 7 1", 21, x.marked(7, 1));
            due("met has no bit beyond", true, x.met() >= 0 && x.met() < 256);
        }
    }

    private static void iThOfTheBad() {
        about("promise 25: the i-th such STEP (from 0), how many (i NONE); NONE: none such");
        for (int what = 0; what < 4; what++) {
            dueBad(Cams.sample(), what);
        }
        int[] all = new int[24];
        for (int i = 0; i < 24; i++) {
            all[i] = i;
        }
        CamMaker x = Cams.cam(0, new int[] {24, 0, 0});
        x.base(1349);
        dueBad(x, 1, all);
        dueBad(x, 0);
        CamMaker y = Cams.cam(3, new int[] {1, 0, 0}, new int[] {22, 0, 0}, new int[] {1, 3, 0});
        y.steepest(0);
        dueBad(y, 2, 1, 23);
        y.spring(0, 0, 1);
        y.speed(1);
        dueBad(y, 3, 0);
        y.base(10);
        y.roller(200);
        dueBad(y, 0, 0);
        CamMaker z = Cams.peak(23, 3);
        z.base(10);
        z.roller(200);
        dueBad(z, 0, 23);
    }

    private static void firstOfTheMost() {
        about("promises 19 and 26: the first STEP that has it");
        // Two like peaks, the first one at STEP 0 or 1, the second one at STEP 13.
        for (int first = 0; first < 2; first++) {
            CamMaker x = first == 0
                    ? Cams.cam(40, new int[] {1, 0, 0}, new int[] {11, 0, 0}, new int[] {1, 40, 0},
                            new int[] {1, 0, 0}, new int[] {9, 0, 0}, new int[] {1, 40, 0})
                    : Cams.cam(0, new int[] {1, 40, 0}, new int[] {1, 0, 0}, new int[] {10, 0, 0},
                            new int[] {1, 40, 0}, new int[] {1, 0, 0}, new int[] {10, 0, 0});
            due("lift 13", 40, x.lift(13));
            due("top 3", 40, x.top(3));
            due("top 4", first, x.top(4));
            due("top 5", 80, x.top(5));
            due("top 2", first, x.top(2));
            due("most 2 0", 80, x.most(2, 0));
            due("most 2 1", first, x.most(2, 1));
            due("most 2 2", 2, x.most(2, 2));
            due("most 1 0", 40, x.most(1, 0));
            due("most 1 1", 0, x.most(1, 1));
            due("most 1 2", 4, x.most(1, 2));
            due("most 3 0", 120, x.most(3, 0));
            due("most 3 1", 0, x.most(3, 1));
            due("most 3 2", 4, x.most(3, 2));
            due("top 0", x.press(first + 1), x.top(0));
            due("top 1", first + 1, x.top(1));
        }
        CamMaker y = Cams.cam(6, new int[] {24, 6, 1});
        int[] tops = {0, 0, 0, 6, 0, 144};
        for (int what = 0; what < 6; what++) {
            due("all alike: top " + what, tops[what], y.top(what));
        }
        for (int which = 1; which <= 3; which++) {
            due("all alike: most " + which + " 0", 0, y.most(which, 0));
            due("all alike: most " + which + " 1", 0, y.most(which, 1));
            due("all alike: most " + which + " 2", 24, y.most(which, 2));
        }
    }

    /** A cam with so many SEGMENTS that are no DWELL, in 12 SEGMENTS. */
    private static CamMaker moving(int n) {
        CamMaker x = new CamMaker();
        for (int i = 0; i < 12; i++) {
            x.segment(2, i < n - 1 ? i % 2 + 1 : 0, i % 4);
        }
        return x;
    }

    private static void bestOfMoving() {
        about("promise 29: more than 6 SEGMENTS are no DWELL");
        for (int n = 0; n <= 12; n++) {
            CamMaker x = moving(n);
            int are = 0;
            for (int i = 0; i < 12; i++) {
                are += 1 - x.of(i, 5);
            }
            due("how many are no DWELL", n == 1 ? 0 : n, are);
            due("count 12", 1, x.count(12));
            for (int what : new int[] {0, 11, 12, 13, 14}) {
                due("best " + what + " of " + n, n <= 6, x.best(what) != NONE);
            }
            due("best 11 of " + n, n > 6 ? NONE : 3, x.best(11));
            due("best 15 of " + n, NONE, x.best(15));
        }
    }

    private static void bestOfNoSuch() {
        about("promise 29: what 0 to 11: the LAW of that SEGMENT; NONE: none such");
        for (int n = 1; n <= 12; n++) {
            CamMaker x = new CamMaker();
            for (int i = 0; i < n; i++) {
                x.segment(i < n - 1 ? 1 : 25 - n, 0, i % 4);
            }
            for (int what = 0; what < 12; what++) {
                due("best " + what + " of " + n, what < n ? what % 4 : NONE, x.best(what));
            }
            due("best 12 of " + n, 0, x.best(12));
            due("best 13 of " + n, 0, x.best(13));
            due("best 14 of " + n, 1, x.best(14));
        }
    }

    private static boolean cuts(CamMaker x, int roller) {
        x.roller(roller);
        return x.bad(0, NONE) + x.bad(1, NONE) > 0;
    }

    private static void greatestRoller() {
        about("promise 30: the greatest ROLLER (1 to 9999) from 1 on up to which each one has none (0: 1 has one)");
        CamMaker x = Cams.cam(0, new int[] {24, 0, 0});
        int[][] all = {{10, 1438}, {400, 1048}, {1446, 2}, {1447, 1}, {1448, 0}, {1449, 0}, {9999, 0}};
        for (int[] a : all) {
            x.base(a[0]);
            due("limit 0 by BASE " + a[0], a[1], x.limit(0));
            due("it does not hang on the ROLLER told", a[1], cuts(x, 9999) ? x.limit(0) : NONE);
            due("UNDERCUT by the next one", true, cuts(x, a[1] + 1));
            if (a[1] > 0) {
                due("UNDERCUT by that one", false, cuts(x, a[1]));
                due("UNDERCUT by 1", false, cuts(x, 1));
            }
        }
        // With a peak of 10 the powers are equal by a ROLLER of BASE and 10.
        CamMaker y = Cams.peak(5, 10);
        y.base(136);
        due("limit 0, equal powers at it", 146, y.limit(0));
        due("UNDERCUT by 146", false, cuts(y, 146));
        due("UNDERCUT by 147", true, cuts(y, 147));
        CamMaker z = Cams.around(120, 5, 0, 999, 0);
        z.base(10);
        due("limit 0 of the sharpest", true, z.limit(0) < 91);
        due("count 4 stays", 100, z.count(4));
    }

    private static void leastBase() {
        about("promise 30: the least BASE by which no STEP is STEEP (NONE: by 9999 one is)");
        // V is -58 at the STEP behind the peak: by STEEPEST 5 its FAR is to be 9667.
        CamMaker u = Cams.peak(5, 30);
        u.steepest(5);
        int[][] all = {{1, 9666}, {9656, 11}, {9657, 10}, {9658, 10}, {9999, 10}};
        for (int[] a : all) {
            u.roller(a[0]);
            due("limit 1 by ROLLER " + a[0], a[1], u.limit(1));
            u.base(a[1]);
            due("bad 2 by BASE " + a[1], 0, u.bad(2, NONE));
            due("it does not hang on the BASE told", a[1], u.limit(1));
        }
        u.roller(9656);
        u.base(10);
        due("bad 2 by the one below", 1, u.bad(2, NONE));
        // V is -1908 there: by STEEPEST 180 its FAR is to be 10542.
        CamMaker v = Cams.peak(5, 999);
        v.steepest(180);
        v.roller(10542 - 9999);
        due("limit 1, by 9999 none is", 9999, v.limit(1));
        v.base(9999);
        due("bad 2 by 9999", 0, v.bad(2, NONE));
        v.roller(10541 - 9999);
        due("limit 1, by 9999 one is", NONE, v.limit(1));
        due("bad 2 by 9999", 1, v.bad(2, NONE));
        CamMaker w = Cams.cam(0, new int[] {24, 0, 0});
        w.steepest(0);
        due("limit 1 of a DWELL", 10, w.limit(1));
    }

    private static void greatestSpeed() {
        about("promise 30: the greatest SPEED by which none FLOATS (NONE: by 0 one does)");
        // SECOND is -2 at the peak: 2 times SPEED SPEED may be 1000 times LOAD.
        CamMaker x = Cams.peak(5, 1);
        int[][] all = {{0, 0}, {1, 22}, {20, 100}, {19, 97}, {21, 102}, {99999, 7071}};
        for (int[] a : all) {
            x.spring(a[0], 0, 1);
            due("limit 2 by LOAD " + a[0], a[1], x.limit(2));
            x.speed(a[1]);
            due("bad 3 by SPEED " + a[1], 0, x.bad(3, NONE));
            x.speed(a[1] + 1);
            due("bad 3 by SPEED " + (a[1] + 1), 1, x.bad(3, NONE));
            due("it does not hang on the SPEED told", a[1], x.limit(2));
        }
        // RATE times LIFT helps: 300 times 999 by a SECOND of -1998.
        CamMaker y = Cams.peak(5, 999);
        y.spring(0, 300, 1);
        due("limit 2 by RATE alone", 387, y.limit(2));
        CamMaker z = Cams.lifts(24, 5, 6, 7, 7, 6);
        z.spring(99999, 0, 1);
        due("limit 2, SECOND -1 at most", 9999, z.limit(2));
        z.spring(99980, 0, 1);
        due("limit 2 by LOAD 99980", 9998, z.limit(2));
        z.spring(99981, 0, 1);
        due("limit 2 by LOAD 99981", 9999, z.limit(2));
        z.speed(9999);
        due("bad 3 by 9999", 0, z.bad(3, NONE));
        CamMaker w = Cams.cam(0, new int[] {24, 0, 0});
        w.spring(0, 0, 999);
        due("limit 2 of a DWELL", 9999, w.limit(2));
    }

    private static void notWholeAnyLonger() {
        about("promises 17 to 31: it is not WHOLE, behind a call that told something");
        On[] calls = {x -> x.drop(), x -> x.start(1), x -> x.alter(0, 0, 5), x -> x.alter(0, 0, 7),
            x -> x.alter(3, 1, 1), x -> x.segment(1, 0, 0), x -> x.steps(24), x -> x.steps(25)};
        for (int i = 0; i < calls.length; i++) {
            CamMaker x = whole();
            due("lift 3", 6, x.lift(3));
            due("best 12", 1, x.best(12));
            due("call " + i, true, calls[i].answer(x) != NONE);
            due("lift 3 behind call " + i, NONE, x.lift(3));
            due("best 12 behind call " + i, NONE, x.best(12));
            due("limit 0 behind call " + i, NONE, x.limit(0));
            due("met behind call " + i, NONE, x.met());
            dueThrow("force 3 behind call " + i, () -> x.force(3));
            if (x.back()) {
                due("lift 3, taken BACK", 6, x.lift(3));
                due("best 12, taken BACK", 1, x.best(12));
            }
        }
    }
}
