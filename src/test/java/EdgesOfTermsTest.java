/** Each sentence of the document's "Terms", parts 1 to 3, that names an edge, by itself: what lies on both sides. */
public final class EdgesOfTermsTest extends Checks {
    private interface Put {
        long on(CamMaker x, int v);
    }

    private interface On {
        long answer(CamMaker x);
    }

    public static void main(String[] args) {
        atFirst();
        stepsLeastAndGreatest();
        numberedFromZero();
        behindTheLastTheFirst();
        allTurned();
        twelveSegments();
        oneBehindAnother();
        longOfASegment();
        endOfASegment();
        lawOfASegment();
        start();
        whole();
        dwell();
        liftAtTheEndsOfASegment();
        liftOfTwoNearest();
        liftByBentAboutTheHalf();
        liftByTheLongest();
        differences();
        borderBySlack();
        borderOfTheFirst();
        settings();
        far();
        cutDownwards();
        bendAboutZero();
        powersAboutEqual();
        thirdPowerAboutNoLong();
        productAboutNoLong();
        noLongButBendNotAboveZero();
        pressCut();
        steep();
        spring();
        forceCutDownwards();
        floats();
        eightMarks();
        stepOfAMark();
        liftOfAMark();
        withinOfAMark();
        met();
        good();
        bestOrder();
        bestKeepsDwells();
        bestByNoneGood();
        bestByOneGood();
        theLastTwenty();
        takenBackOneByOne();
        askedAgainBehindBack();
        notTakenBack();
        end();
    }

    private static int[] edges(int least, int greatest) {
        return new int[] {MIN, MIN + 1, -greatest, -least - 1, -1, least - 1, least, least + 1, greatest - 1, greatest,
            greatest + 1, MAX - 1, MAX};
    }

    /** A setting that count() tells: each value from the least to the greatest is taken, and no other. */
    private static void dueSetting(int setting, int first, int least, int greatest, Put put) {
        due("at first", first, new CamMaker().count(setting));
        for (int v : edges(least, greatest)) {
            boolean taken = v >= least && v <= greatest;
            CamMaker x = new CamMaker();
            due("telling " + v, taken ? first : NONE, put.on(x, v));
            due("behind telling " + v, taken ? v : first, x.count(setting));
            due("what can be taken BACK of it", taken ? 1 : 0, x.count(14));
        }
    }

    private static void atFirst() {
        about("(.. at first)");
        int[] first = {24, 0, 0, 400, 100, 1000, 10, 10, 100, 577, 1, 0, 0, 0, 0, 0};
        CamMaker x = new CamMaker();
        for (int what = 0; what < first.length; what++) {
            due("count " + what, first[what], x.count(what));
        }
    }

    private static void stepsLeastAndGreatest() {
        about("STEPS: 24 to 120");
        for (int n : edges(24, 120)) {
            boolean taken = n >= 24 && n <= 120;
            CamMaker x = Cams.sample();
            x.mark(3, 6, 0);
            due("steps " + n, taken ? 4 : NONE, x.steps(n));
            due("count 0 behind steps " + n, taken ? n : 24, x.count(0));
            due("count 1 behind steps " + n, taken ? 0 : 4, x.count(1));
            due("count 11 behind steps " + n, taken ? 0 : 1, x.count(11));
            due("count 14 behind steps " + n, taken ? 0 : 5, x.count(14));
            due("lift 3 behind steps " + n, taken ? NONE : 6, x.lift(3));
        }
    }

    private static void numberedFromZero() {
        about("numbered from 0");
        for (int steps : new int[] {24, 25, 119, 120}) {
            CamMaker x = Cams.around(steps, 5, 3, 9, 3);
            for (int step : new int[] {0, 1, steps - 2, steps - 1}) {
                due("lift " + step + " of " + steps, 3, x.lift(step));
                due("diff " + step + " of " + steps, 0, x.diff(step, 1));
                due("undercut " + step + " of " + steps, 0, x.undercut(step));
                due("press " + step + " of " + steps, 0, x.press(step));
                due("force " + step + " of " + steps, 1030, x.force(step));
                due("shape " + step + " of " + steps, 503, x.shape(step, 0));
            }
            for (int step : new int[] {MIN, -steps, -1, steps, steps + 1, 2 * steps, MAX}) {
                due("lift " + step + " of " + steps, NONE, x.lift(step));
                due("undercut " + step + " of " + steps, NONE, x.undercut(step));
                due("press " + step + " of " + steps, NONE, x.press(step));
                dueThrow("diff " + step + " of " + steps, () -> x.diff(step, 1));
                dueThrow("force " + step + " of " + steps, () -> x.force(step));
                dueThrow("shape " + step + " of " + steps, () -> x.shape(step, 0));
            }
        }
    }

    private static void dueDiffs(String what, CamMaker x, int step, int first, int second, int third) {
        due(what + ": diff " + step + " 1", first, x.diff(step, 1));
        due(what + ": diff " + step + " 2", second, x.diff(step, 2));
        due(what + ": diff " + step + " 3", third, x.diff(step, 3));
    }

    private static void behindTheLastTheFirst() {
        about("behind the last one comes the first one");
        // The LIFTS are 70 at STEP 0, 40 at STEP 1, 0 up to the last one but one, 10 at the last one.
        dueRound(Cams.cam(70, new int[] {1, 40, 0}, new int[] {1, 0, 0}, new int[] {20, 0, 0}, new int[] {1, 10, 0},
                new int[] {1, 70, 0}));
        dueRound(Cams.cam(70, new int[] {1, 40, 0}, new int[] {1, 0, 0}, new int[] {60, 0, 0}, new int[] {56, 0, 0},
                new int[] {1, 10, 0}, new int[] {1, 70, 0}));
    }

    private static void dueRound(CamMaker x) {
        int steps = x.count(0);
        int last = steps - 1;
        String what = "of " + steps;
        dueDiffs(what, x, last - 2, 0, 0, 10);
        dueDiffs(what, x, last - 1, 10, 10, 40);
        dueDiffs(what, x, last, 60, 50, -140);
        dueDiffs(what, x, 0, -30, -90, 80);
        dueDiffs(what, x, 1, -40, -10, 50);
        int[][] all = {{last - 1, 10, 10}, {last, 70, 50}, {0, 30, -90}, {1, -70, -10}};
        for (int[] a : all) {
            due(what + ": shape " + a[0] + " 1", Math.floorDiv(a[1] * 113L * steps, 1420L), x.shape(a[0], 1));
            due(what + ": shape " + a[0] + " 2", Math.floorDiv(a[2] * 12769L * steps * steps, 504100L),
                    x.shape(a[0], 2));
        }
        due(what + ": border 0", 0, x.border(0));
        x.slack(90);
        due(what + ": border 0 by 90", 1, x.border(0));
    }

    /** The same SEGMENTS told from another one on: every STEP answers as the one did from which it is turned. */
    private static void allTurned() {
        about("behind the last one comes the first one");
        int[][][] all = {
            {{1, 50, 0}, {1, 20, 0}, {20, 30, 2}, {1, 300, 0}, {1, 10, 0}},
            {{3, 90, 1}, {1, 10, 0}, {9, 70, 3}, {4, 70, 2}, {5, 0, 0}, {2, 35, 1}},
            {{1, 7, 0}, {1, 9, 0}, {1, 12, 0}, {1, 30, 0}, {1, 12, 0}, {1, 0, 0}, {1, 0, 0}, {1, 44, 0}, {1, 9, 0},
                {30, 60, 2}, {60, 0, 3}, {2, 3, 1}},
            {{24, 11, 3}}};
        for (int[][] segments : all) {
            for (int from = 1; from < segments.length; from++) {
                dueTurned(segments, from);
            }
        }
    }

    private static void dueTurned(int[][] segments, int from) {
        int n = segments.length;
        int shift = 0;
        int[][] turned = new int[n][];
        for (int i = 0; i < n; i++) {
            turned[i] = segments[(i + from) % n];
            shift += i < from ? segments[i][0] : 0;
        }
        CamMaker x = Cams.cam(segments[n - 1][1], segments);
        CamMaker y = Cams.cam(turned[n - 1][1], turned);
        int steps = x.count(0);
        for (int i : new int[] {0, 1, 2, steps - 3, steps - 2, steps - 1}) {
            int j = (i + shift) % steps;
            String what = "turned from " + from + ", STEP " + i;
            due(what + ": lift", x.lift(j), y.lift(i));
            for (int which = 1; which <= 3; which++) {
                due(what + ": diff " + which, x.diff(j, which), y.diff(i, which));
            }
            for (int shape = 0; shape < 4; shape++) {
                due(what + ": shape " + shape, x.shape(j, shape), y.shape(i, shape));
            }
            due(what + ": undercut", x.undercut(j), y.undercut(i));
            due(what + ": press", x.press(j), y.press(i));
            due(what + ": force", x.force(j), y.force(i));
        }
        dueTurnedWhole("turned from " + from, x, y, from);
    }

    private static void dueTurnedWhole(String what, CamMaker x, CamMaker y, int from) {
        int n = x.count(1);
        for (int i = 0; i < n; i++) {
            due(what + ": border " + i, x.border((i + from) % n), y.border(i));
        }
        for (int which = 1; which <= 3; which++) {
            due(what + ": most " + which + " 0", x.most(which, 0), y.most(which, 0));
            due(what + ": most " + which + " 2", x.most(which, 2), y.most(which, 2));
        }
        for (int i = 0; i < 3; i++) {
            due(what + ": limit " + i, x.limit(i), y.limit(i));
            due(what + ": best " + (12 + i), x.best(12 + i), y.best(12 + i));
        }
        for (int i = 0; i < 4; i++) {
            due(what + ": bad " + i, x.bad(i, NONE), y.bad(i, NONE));
        }
        due(what + ": top 0", x.top(0), y.top(0));
        due(what + ": top 5", x.top(5), y.top(5));
    }

    private static void twelveSegments() {
        about("SEGMENTS: 12 at most");
        CamMaker x = new CamMaker();
        for (int i = 0; i < 12; i++) {
            due("segment, number " + i, i, x.segment(2, i < 11 ? 5 * i : 0, i % 4));
            due("count 1", i + 1, x.count(1));
        }
        due("count 12", 1, x.count(12));
        due("a thirteenth", NONE, x.segment(2, 0, 0));
        due("a thirteenth of the least", NONE, x.segment(1, 0, 0));
        due("count 1", 12, x.count(1));
        due("count 12", 1, x.count(12));
        due("of 11 4", 22, x.of(11, 4));
        due("of 11 3", 50, x.of(11, 3));
        due("of 11 2", 3, x.of(11, 2));
        due("of 12 0", NONE, x.of(12, 0));
        due("lift 22", 50, x.lift(22));
        due("lift 23", 25, x.lift(23));
        due("drop", 11, x.drop());
        due("a twelfth again", 11, x.segment(2, 0, 1));
        due("a thirteenth again", NONE, x.segment(2, 0, 1));
    }

    private static void oneBehindAnother() {
        about("one behind another from STEP 0 on");
        CamMaker x = Cams.cam(3, new int[] {1, 8, 0}, new int[] {60, 20, 0}, new int[] {7, 9, 0}, new int[] {20, 3, 0});
        int[] begins = {0, 1, 61, 68};
        int[] origins = {3, 8, 20, 9};
        for (int i = 0; i < 4; i++) {
            due("of " + i + " 4", begins[i], x.of(i, 4));
            due("of " + i + " 3", origins[i], x.of(i, 3));
            due("lift of its first STEP", origins[i], x.lift(begins[i]));
        }
        x.alter(0, 0, 60);
        due("of 3 4 behind STEPS", 127, x.of(3, 4));
    }

    private static void longOfASegment() {
        about("LONG STEPS (1 to 60)");
        for (int n : edges(1, 60)) {
            boolean taken = n >= 1 && n <= 60;
            CamMaker x = new CamMaker();
            due("segment " + n, taken ? 0 : NONE, x.segment(n, 5, 1));
            due("count 15 behind segment " + n, taken ? n : 0, x.count(15));
            CamMaker y = Cams.sample();
            due("alter LONG to " + n, taken ? 6 : NONE, y.alter(3, 0, n));
            due("of 3 0 behind alter to " + n, taken ? n : 6, y.of(3, 0));
        }
    }

    private static void endOfASegment() {
        about("to an END (0 to 999)");
        for (int v : edges(0, 999)) {
            boolean taken = v >= 0 && v <= 999;
            CamMaker x = new CamMaker();
            due("segment to " + v, taken ? 0 : NONE, x.segment(24, v, 1));
            due("count 1 behind segment to " + v, taken ? 1 : 0, x.count(1));
            CamMaker y = Cams.sample();
            due("alter END to " + v, taken ? 12 : NONE, y.alter(1, 1, v));
            due("of 1 1 behind alter to " + v, taken ? v : 12, y.of(1, 1));
            due("lift 12 behind alter to " + v, taken ? v : 12, y.lift(12));
        }
    }

    private static void lawOfASegment() {
        about("by a LAW (0 to 3)");
        int[] half = {25, 13, 10, 7};
        for (int v : edges(0, 3)) {
            boolean taken = v >= 0 && v <= 3;
            CamMaker x = Cams.cam(0, new int[] {12, 100, 0}, new int[] {12, 0, 0});
            due("alter LAW to " + v, taken ? 0 : NONE, x.alter(0, 2, v));
            due("of 0 2 behind alter to " + v, taken ? v : 0, x.of(0, 2));
            due("lift 3 behind alter to " + v, taken ? half[v] : 25, x.lift(3));
            CamMaker y = new CamMaker();
            due("segment by " + v, taken ? 0 : NONE, y.segment(12, 100, v));
            due("count 1 behind segment by " + v, taken ? 1 : 0, y.count(1));
        }
    }

    private static void start() {
        about("START: 0 to 999 (0 at first)");
        dueSetting(2, 0, 0, 999, (x, v) -> x.start(v));
        about("from where the first one comes");
        CamMaker x = new CamMaker();
        x.segment(24, 0, 0);
        due("of 0 3", 0, x.of(0, 3));
        x.start(999);
        due("of 0 3", 999, x.of(0, 3));
        x.alter(0, 1, 999);
        due("lift 0", 999, x.lift(0));
    }

    private static void dueWhole(String what, boolean want, CamMaker x) {
        due(what + ": count 12", want, x.count(12) == 1);
        due(what + ": lift 0", want, x.lift(0) != NONE);
        due(what + ": met", want, x.met() != NONE);
        due(what + ": best 12", want, x.best(12) != NONE);
        due(what + ": limit 1", want, x.limit(1) != NONE);
    }

    private static void whole() {
        about("It is WHOLE, if all LONG together are STEPS, and the last END is START");
        dueWhole("no SEGMENT", false, new CamMaker());
        CamMaker x = Cams.sample();
        dueWhole("24 STEPS of 24", true, x);
        x.alter(3, 0, 5);
        dueWhole("23 STEPS of 24", false, x);
        x.alter(3, 0, 7);
        dueWhole("25 STEPS of 24", false, x);
        x.alter(0, 0, 5);
        dueWhole("24 STEPS again", true, x);
        x.segment(1, 0, 0);
        dueWhole("one SEGMENT more", false, x);
        x.drop();
        x.alter(3, 1, 1);
        dueWhole("the last END one above START", false, x);
        x.start(1);
        dueWhole("START there, too", true, x);
        x.start(2);
        dueWhole("START one above the last END", false, x);
        x.back();
        dueWhole("taken BACK", true, x);
        x.steps(24);
        dueWhole("no SEGMENT any longer", false, x);
        CamMaker y = new CamMaker();
        y.steps(120);
        y.segment(60, 999, 0);
        y.segment(59, 0, 0);
        dueWhole("119 STEPS of 120", false, y);
        y.alter(1, 0, 60);
        dueWhole("120 STEPS of 120", true, y);
    }

    private static void dwell() {
        about("A DWELL: a SEGMENT whose END is that from where it comes");
        for (int v : new int[] {0, 10, 11, 12, 13, 999}) {
            CamMaker x = Cams.sample();
            x.alter(1, 1, v);
            due("of 1 5 to " + v, v == 12 ? 1 : 0, x.of(1, 5));
            due("of 2 5 from " + v, v == 0 ? 1 : 0, x.of(2, 5));
            x.start(v);
            due("of 0 5 from START " + v, v == 12 ? 1 : 0, x.of(0, 5));
        }
        CamMaker y = new CamMaker();
        due("no SEGMENT", NONE, y.of(0, 5));
        y.segment(1, 0, 3);
        due("the first one from START at first", 1, y.of(0, 5));
    }

    private static void liftAtTheEndsOfASegment() {
        about("LIFT of STEP i, the k-th (from 0) of a SEGMENT of n STEPS");
        for (int law = 0; law < 4; law++) {
            CamMaker x = Cams.cam(999, new int[] {1, 0, law}, new int[] {2, 999, law}, new int[] {1, 5, law},
                    new int[] {20, 999, law});
            dueLifts("by " + law, x, 0, 999, 0, 500, 999, 5);
            due("lift 14, the half, by " + law, 502, x.lift(14));
        }
    }

    private static void liftOfTwoNearest() {
        about("to the nearest whole, of two the greater one");
        for (int law = 0; law < 4; law++) {
            CamMaker x = Cams.cam(3, new int[] {2, 0, law}, new int[] {2, 1, law}, new int[] {2, 0, law},
                    new int[] {2, 999, law}, new int[] {16, 3, law});
            dueLifts("by " + law, x, 0, 3, 2, 0, 1, 1, 1, 0, 500, 999);
        }
        // EVEN by n 4: 2 k / 4; BENT: a 8th, the half, 7 8ths of 4; SMOOTH: 53 / 512 of 256.
        dueQuarters(0, 2, 1, 1, 2, 2, 1, 1);
        dueQuarters(1, 4, 1, 2, 4, 4, 2, 1);
        dueQuarters(1, 12, 2, 6, 11, 11, 6, 2);
        dueQuarters(2, 256, 27, 128, 230, 230, 128, 27);
        // A third up or down is less than a half.
        CamMaker y = Cams.cam(0, new int[] {3, 1, 0}, new int[] {3, 0, 0}, new int[] {18, 0, 0});
        dueLifts("by thirds", y, 0, 0, 0, 1, 1, 1, 0, 0);
    }

    /** The three LIFTS between 0 and h in 4 STEPS, and the three of the way back. */
    private static void dueQuarters(int law, int h, int... lifts) {
        CamMaker x = Cams.cam(0, new int[] {4, h, law}, new int[] {4, 0, law}, new int[] {16, 0, 0});
        for (int i = 0; i < 3; i++) {
            due("lift " + (1 + i) + " to " + h + " by " + law, lifts[i], x.lift(1 + i));
            due("lift " + (5 + i) + " from " + h + " by " + law, lifts[3 + i], x.lift(5 + i));
        }
    }

    private static void liftByBentAboutTheHalf() {
        about("if 2 k is n at most");
        CamMaker x = Cams.cam(0, new int[] {5, 100, 1}, new int[] {6, 0, 1}, new int[] {13, 0, 0});
        dueLifts("BENT", x, 0, 0, 8, 32, 68, 92, 100, 94, 78, 50, 22, 6, 0);
        CamMaker y = Cams.cam(0, new int[] {60, 999, 1}, new int[] {59, 0, 1}, new int[] {1, 0, 0});
        due("lift 29, k 29 of 60", 467, y.lift(29));
        due("lift 30, k 30 of 60", 500, y.lift(30));
        due("lift 31, k 31 of 60", 532, y.lift(31));
        due("lift 89, k 29 of 59", 516, y.lift(89));
        due("lift 90, k 30 of 59", 483, y.lift(90));
    }

    private static void liftByTheLongest() {
        about("LIFT by n 60 and h 999 or -999");
        // The first four LIFTS and the last three of a rise, from which those of the return are counted down.
        int[][] all = {{0, 17, 33, 50, 949, 966, 982}, {0, 1, 2, 5, 994, 997, 998}, {0, 0, 0, 1, 998, 999, 999},
            {0, 0, 0, 0, 999, 999, 999}};
        int[] steps = {0, 1, 2, 3, 57, 58, 59};
        for (int law = 0; law < 4; law++) {
            CamMaker x = Cams.cam(0, new int[] {60, 999, law}, new int[] {60, 0, law});
            int last = 0;
            for (int i = 0; i < 60; i++) {
                due("lift " + i + " by " + law + " does not fall", true, x.lift(i) >= last);
                last = x.lift(i);
            }
            for (int i = 0; i < steps.length; i++) {
                due("lift " + steps[i] + " by " + law, all[law][i], x.lift(steps[i]));
            }
            due("lift 60 by " + law, 999, x.lift(60));
            due("lift 119 by " + law, 999 - all[law][6], x.lift(119));
        }
    }

    private static void differences() {
        about("FIRST .. SECOND .. THIRD, the greatest there are");
        CamMaker x = Cams.lifts(24, 0, 0, 999, 0, 999, 0, 0);
        dueDiffs("up and down", x, 1, 999, 999, -2997);
        dueDiffs("up and down", x, 2, -999, -1998, 3996);
        dueDiffs("up and down", x, 3, 999, 1998, -3996);
        dueDiffs("up and down", x, 5, 0, 999, -999);
        int[][] most = {{999, 1, 4}, {1998, 2, 3}, {3996, 2, 2}};
        for (int which = 1; which <= 3; which++) {
            for (int what = 0; what < 3; what++) {
                due("most " + which + " " + what, most[which - 1][what], x.most(which, what));
            }
        }
        CamMaker y = Cams.cam(5, new int[] {24, 5, 2});
        dueDiffs("a DWELL alone", y, 0, 0, 0, 0);
        dueDiffs("a DWELL alone", y, 23, 0, 0, 0);
    }

    /** The BORDER of the third STEP, with these SECONDS at the STEP ahead of it, at it, and at the one behind it. */
    private static void dueBorder(int want, int slack, int ahead, int here, int behind) {
        int a = ahead + here + behind > 0 ? 300 : 700;
        int b = a + ahead;
        int c = b + ahead + here;
        int d = c + ahead + here + behind;
        CamMaker x = Cams.lifts(24, a, a, b, c, d);
        x.slack(slack);
        due("diff 1 2", ahead, x.diff(1, 2));
        due("diff 2 2", here, x.diff(2, 2));
        due("diff 3 2", behind, x.diff(3, 2));
        due("border 2 by " + slack + " with SECONDS " + ahead + " " + here + " " + behind, want, x.border(2));
    }

    private static void borderBySlack() {
        about("those of that STEP and of the one ahead do not differ by more than its SLACK");
        for (int slack : new int[] {0, 1, 2, 50, 99}) {
            for (int sign = -1; sign <= 1; sign += 2) {
                int s = sign * slack;
                int more = sign * (slack + 1);
                dueBorder(3, slack, 0, s, s);
                dueBorder(3, slack, s, s, s);
                dueBorder(0, slack, more, more, more);
                dueBorder(2, slack, 0, 0, more);
                dueBorder(3, slack, 0, 0, s);
                dueBorder(1, slack, -sign, s, s);
                dueBorder(slack == 0 ? 0 : 1, slack, -s, sign, 2 * sign + s);
            }
        }
        about("SLACK (0 to 99; 1 at first)");
        dueSetting(10, 1, 0, 99, (x, v) -> x.slack(v));
    }

    private static void borderOfTheFirst() {
        about("those of that STEP and of the one ahead: of STEP 0 the last one");
        for (int jump = 0; jump < 4; jump++) {
            // SECOND of STEP 0 is twice the jump, that of the last STEP and of STEP 1 is less by as much as it.
            CamMaker x = Cams.cam(50 - jump, new int[] {1, 50, 0}, new int[] {22, 50, 0}, new int[] {1, 50 - jump, 0});
            x.slack(4);
            due("diff 0 2", 2 * jump, x.diff(0, 2));
            due("diff 23 2", -jump, x.diff(23, 2));
            due("border 0 by a jump of " + jump, jump == 0 ? 3 : jump == 1 ? 2 : jump == 2 ? 1 : 0, x.border(0));
        }
    }

    private static void settings() {
        about("BASE (10 to 9999; 400 at first)");
        dueSetting(3, 400, 10, 9999, (x, v) -> x.base(v));
        about("ROLLER (1 to 9999; 100 at first)");
        dueSetting(4, 100, 1, 9999, (x, v) -> x.roller(v));
        about("STEEPEST (0 to 9999; 577 at first)");
        dueSetting(9, 577, 0, 9999, (x, v) -> x.steepest(v));
        about("SPEED 0 to 9999 (100 at first)");
        dueSetting(8, 100, 0, 9999, (x, v) -> x.speed(v));
    }

    private static void far() {
        about("FAR of i: BASE, ROLLER and LIFT together");
        CamMaker x = Cams.cam(0, new int[] {12, 999, 0}, new int[] {12, 0, 0});
        x.base(10);
        x.roller(1);
        due("shape 0 0, the least", 11, x.shape(0, 0));
        due("press 0", 1000 * x.shape(0, 1) / 11, x.press(0));
        x.base(9999);
        x.roller(9999);
        due("shape 12 0, the greatest", 20997, x.shape(12, 0));
    }

    private static void dueV(int steps, int d, long v) {
        CamMaker x = Cams.around(steps, 5, d < 0 ? -d : 0, 0, d < 0 ? 0 : d);
        due("shape 1 by " + d + " of " + steps, v, x.shape(5, 1));
    }

    private static void dueA(int steps, int second, long a) {
        CamMaker x = Cams.around(steps, 5, second < 0 ? 0 : second / 2, second < 0 ? -second / 2 : 0,
                second < 0 ? 0 : second / 2);
        due("diff 2", second, x.diff(5, 2));
        due("shape 2 by " + second + " of " + steps, a, x.shape(5, 2));
    }

    private static void cutDownwards() {
        about("V .. A .. both cut downwards");
        dueV(24, 0, 0);
        dueV(24, 1, 1);
        dueV(24, -1, -2);
        dueV(120, 70, 668);
        dueV(120, -70, -669);
        // 71 times 113 times 120 is 678 times 1420.
        dueV(120, 71, 678);
        dueV(120, -71, -678);
        dueV(120, 999, 9539);
        dueV(120, -999, -9540);
        dueA(24, 0, 0);
        dueA(24, 2, 29);
        dueA(24, -2, -30);
        // 100 times 12769 times 71 times 71 is 12769 times 504100.
        dueA(71, 100, 12769);
        dueA(71, -100, -12769);
        dueA(71, 102, 13024);
        dueA(71, -102, -13025);
        dueA(120, 1998, 728782);
        dueA(120, -1998, -728783);
    }

    /** UNDERCUT of a STEP at which the three LIFTS are these. */
    private static void dueCut(int want, CamMaker x, int base, int roller, long bend) {
        x.base(base);
        x.roller(roller);
        due("shape 5 3", bend, x.shape(5, 3));
        due("undercut 5 by BEND " + bend, want, x.undercut(5));
    }

    private static void bendAboutZero() {
        about("if BEND is above 0");
        dueCut(2, Cams.around(24, 5, 838, 261, 0), 1512, 100, 1);
        dueCut(0, Cams.around(24, 5, 934, 268, 0), 1099, 100, -1);
        // A hollow of 600 has a V of 0 and an A of 17508: by a FAR as great BEND is 0.
        dueCut(0, Cams.around(24, 5, 600, 0, 600), 9999, 7509, 0);
        dueCut(2, Cams.around(24, 5, 600, 0, 600), 9999, 7510, 17509);
        dueCut(0, Cams.around(24, 5, 600, 0, 600), 9999, 7508, -17507);
    }

    private static void powersAboutEqual() {
        about("is less than ROLLER ROLLER times BEND BEND");
        // With V 0 and A -292, twice BASE and LIFT, both are 292 to the sixth by a ROLLER of 146.
        CamMaker x = Cams.peak(5, 10);
        dueCut(0, x, 136, 145, 291L * 291 + 291 * 292);
        dueCut(0, x, 136, 146, 292L * 292 * 2);
        dueCut(1, x, 136, 147, 293L * 293 + 293 * 292);
        dueCut(1, x, 135, 146, 291L * 291 + 291 * 292);
        dueCut(0, x, 137, 146, 293L * 293 + 293 * 292);
    }

    private static void thirdPowerAboutNoLong() {
        about("a number on that way (all as told) is no long: the third power");
        CamMaker x = Cams.cam(0, new int[] {24, 0, 0});
        dueCut(0, x, 1348, 100, 1448L * 1448);
        dueCut(2, x, 1349, 100, 1449L * 1449);
        dueCut(0, x, 1447, 1, 1448L * 1448);
        dueCut(2, x, 1448, 1, 1449L * 1449);
        dueCut(0, x, 10, 1438, 1448L * 1448);
        dueCut(2, x, 10, 1439, 1449L * 1449);
        // F F + V V is 1195 1195 + 818 818: 2 to the 21st less 3, the last such number whose third power is a long.
        CamMaker y = Cams.around(24, 5, 428, 428, 0);
        due("shape 5 1", -818, y.shape(5, 1));
        due("shape 5 2", -6245, y.shape(5, 2));
        dueCut(0, y, 757, 10, 1195L * 1195 + 2 * 818 * 818 + 1195L * 6245);
        // Here it is 1024 1024 + 1024 1024: 2 to the 21st, whose third power is the first number that is no long.
        CamMaker z = Cams.around(24, 5, 600, 332, 64);
        due("shape 5 1", -1024, z.shape(5, 1));
        dueCut(2, z, 591, 101, 3L * 1024 * 1024);
        dueCut(0, z, 590, 101, 1023L * 1023 + 2L * 1024 * 1024);
    }

    private static void productAboutNoLong() {
        about("a number on that way (all as told) is no long: ROLLER ROLLER times BEND BEND");
        // ROLLER times BEND is 3037000498, then 3037000499, whose square is the last that is a long, then one more.
        CamMaker w = Cams.around(60, 5, 0, 419, 81);
        dueCut(1, w, 937, 31, 97967758);
        CamMaker x = Cams.around(105, 5, 81, 387, 0);
        dueCut(1, x, 795, 13, 233615423);
        CamMaker y = Cams.around(60, 5, 3, 706, 0);
        dueCut(2, y, 576, 18, 168722250);
        dueCut(1, y, 577, 17, 168722250);
        // BEND BEND alone is a long here, and so is the third power.
        CamMaker z = Cams.peak(5, 999);
        dueCut(1, z, 10, 91, 1100L * 1100 + 1100L * 29152);
        dueCut(2, z, 10, 92, 1101L * 1101 + 1101L * 29152);
        // Here the third power is one either, and yet it is 2: no number on that way may be none.
        dueCut(2, Cams.peak(5, 999), 9999, 9999, 20997L * 20997 + 20997L * 29152);
    }

    private static void noLongButBendNotAboveZero() {
        about("2, if BEND is above 0, but a number on that way is no long; else 0");
        CamMaker x = Cams.around(120, 5, 999, 0, 999);
        dueCut(0, x, 9999, 9999, 19998L * 19998 - 19998L * 728782);
        dueCut(0, x, 10, 1, 11L * 11 - 11L * 728782);
        due("undercut 4", 2, x.undercut(4));
    }

    private static void pressCut() {
        about("PRESS of i: 1000 times the size of V (its sign left out) by FAR, cut");
        // V is 1 and -2 here.
        CamMaker x = Cams.lifts(24, 0, 0, 1, 0);
        x.base(990);
        int[] rollers = {9, 10, 11};
        int[] up = {1, 1, 0};
        int[] down = {2, 2, 1};
        for (int i = 0; i < 3; i++) {
            x.roller(rollers[i]);
            due("press 1 by a FAR of " + x.shape(1, 0), up[i], x.press(1));
            due("press 3 by a FAR of " + x.shape(3, 0), down[i], x.press(3));
            due("press 2 by V 0", 0, x.press(2));
        }
        CamMaker y = Cams.around(120, 5, 999, 0, 0);
        y.base(10);
        y.roller(1);
        due("press 5, the greatest", 867272, y.press(5));
        due("top 0", 867272, y.top(0));
    }

    private static void steep() {
        about("STEEP: PRESS is above STEEPEST");
        CamMaker x = Cams.sample();
        due("top 0", 15, x.top(0));
        x.steepest(14);
        due("bad 2 by 14", 5, x.bad(2, NONE));
        x.steepest(15);
        due("bad 2 by 15", 0, x.bad(2, NONE));
        x.steepest(16);
        due("bad 2 by 16", 0, x.bad(2, NONE));
        CamMaker y = Cams.cam(0, new int[] {24, 0, 0});
        y.steepest(0);
        due("bad 2: PRESS 0 by STEEPEST 0", 0, y.bad(2, NONE));
        CamMaker z = Cams.lifts(24, 0, 0, 1, 0);
        z.steepest(0);
        z.base(900);
        due("press 1", 1, z.press(1));
        due("bad 2: PRESS 1 by STEEPEST 0", 2, z.bad(2, NONE));
        CamMaker w = Cams.around(120, 5, 999, 0, 0);
        w.roller(1);
        w.steepest(9999);
        w.base(953);
        due("press 5", 10000, w.press(5));
        due("bad 2 0: PRESS 10000 by STEEPEST 9999", 5, w.bad(2, 0));
        w.base(954);
        due("press 5", 9989, w.press(5));
        due("bad 2 0: PRESS 9989 by STEEPEST 9999", NONE, w.bad(2, 0));
    }

    private static void spring() {
        int[] first = {1000, 10, 10};
        int[] least = {0, 0, 1};
        int[] greatest = {99999, 999, 999};
        String[] names = {"LOAD 0 to 99999 (1000)", "RATE 0 to 999 (10)", "MASS 1 to 999 (10)"};
        for (int part = 0; part < 3; part++) {
            about("SPRING: " + names[part]);
            due("at first", first[part], new CamMaker().count(5 + part));
            for (int v : edges(least[part], greatest[part])) {
                boolean taken = v >= least[part] && v <= greatest[part];
                int[] told = {7, 8, 9};
                told[part] = v;
                CamMaker x = new CamMaker();
                due("spring with " + v, taken, x.spring(told[0], told[1], told[2]));
                due("count 14", taken ? 1 : 0, x.count(14));
                for (int i = 0; i < 3; i++) {
                    due("count " + (5 + i) + " behind " + v, taken ? told[i] : first[i], x.count(5 + i));
                }
            }
        }
    }

    private static void forceCutDownwards() {
        about("FORCE .. by 1000, cut downwards");
        // SECOND is 1 at the STEPS 4 and 6, and -2 at STEP 5.
        CamMaker x = Cams.peak(5, 1);
        x.spring(10, 0, 1);
        long[][] all = {{0, 10, 10}, {1, 10, 9}, {22, 10, 9}, {23, 10, 8}, {31, 10, 8}, {32, 11, 7}};
        for (long[] a : all) {
            x.speed((int) a[0]);
            due("force 4 by SPEED " + a[0], a[1], x.force(4));
            due("force 5 by SPEED " + a[0], a[2], x.force(5));
        }
        // 10 times 10 times 10 by 1000 is 1.
        x.spring(10, 0, 10);
        x.speed(10);
        due("force 4, nothing to cut", 11, x.force(4));
        due("force 5, nothing to cut", 8, x.force(5));
        CamMaker y = Cams.peak(5, 999);
        y.spring(99999, 999, 999);
        y.speed(9999);
        due("force 5, the least", 99999 + 999 * 999 + Math.floorDiv(-1998L * 999 * 9999 * 9999, 1000L), y.force(5));
        due("top 2", 5, y.top(2));
    }

    private static void floats() {
        about("It FLOATS, if that is below 0");
        CamMaker x = Cams.peak(5, 1);
        x.speed(10);
        int[][] all = {{2, 0, 0}, {1, -1, 1}, {3, 1, 0}, {0, -2, 1}};
        for (int[] a : all) {
            x.spring(a[0], 0, 10);
            due("force 5 by LOAD " + a[0], a[1], x.force(5));
            due("bad 3 by FORCE " + a[1], a[2], x.bad(3, NONE));
            due("bad 3 0 by FORCE " + a[1], a[2] == 1 ? 5 : NONE, x.bad(3, 0));
        }
        x.spring(0, 0, 1);
        x.speed(0);
        due("force 5 by SPEED 0", 0, x.force(5));
        due("bad 3 by SPEED 0", 0, x.bad(3, NONE));
        x.speed(1);
        due("force 5, cut to -1", -1, x.force(5));
        due("bad 3 by SPEED 1", 1, x.bad(3, NONE));
    }

    private static void eightMarks() {
        about("MARKS: 8 at most, numbered as told");
        CamMaker x = Cams.sample();
        for (int i = 0; i < 8; i++) {
            due("mark, number " + i, i, x.mark(i, 2 * i, 0));
            due("count 11", i + 1, x.count(11));
        }
        due("met", 127, x.met());
        due("a ninth", NONE, x.mark(0, 0, 0));
        due("count 11", 8, x.count(11));
        due("marked 7 0", 7, x.marked(7, 0));
        due("marked 8 0", NONE, x.marked(8, 0));
        due("unmark 7", true, x.unmark(7));
        due("an eighth again", 7, x.mark(7, 12, 0));
        due("met, all eight", 255, x.met());
        due("a ninth again", NONE, x.mark(0, 0, 0));
    }

    private static void stepOfAMark() {
        about("a STEP");
        for (int steps : new int[] {24, 25, 120}) {
            for (int step : edges(0, steps - 1)) {
                boolean taken = step >= 0 && step < steps;
                CamMaker x = new CamMaker();
                x.steps(steps);
                due("mark at " + step + " of " + steps, taken ? 0 : NONE, x.mark(step, 5, 5));
                due("marked 0 0", taken ? step : NONE, x.marked(0, 0));
            }
        }
    }

    private static void liftOfAMark() {
        about("a lift (0 to 999)");
        for (int lift : edges(0, 999)) {
            boolean taken = lift >= 0 && lift <= 999;
            CamMaker x = new CamMaker();
            due("mark of " + lift, taken ? 0 : NONE, x.mark(5, lift, 5));
            due("marked 0 1", taken ? lift : NONE, x.marked(0, 1));
        }
    }

    private static void withinOfAMark() {
        about("WITHIN (0 to 99)");
        for (int within : edges(0, 99)) {
            boolean taken = within >= 0 && within <= 99;
            CamMaker x = new CamMaker();
            due("mark within " + within, taken ? 0 : NONE, x.mark(5, 5, within));
            due("marked 0 2", taken ? within : NONE, x.marked(0, 2));
        }
    }

    private static void met() {
        about("MET, if LIFT there differs by no more than WITHIN");
        int[][] all = {{500, 0, 1}, {501, 0, 0}, {499, 0, 0}, {501, 1, 1}, {499, 1, 1}, {502, 1, 0}, {498, 1, 0},
            {500, 99, 1}, {599, 99, 1}, {401, 99, 1}, {600, 99, 0}, {400, 99, 0}, {999, 99, 0}, {0, 99, 0},
            {540, 50, 1}};
        for (int[] a : all) {
            CamMaker x = Cams.peak(23, 500);
            x.mark(23, a[0], a[1]);
            due("met of " + a[0] + " within " + a[1], a[2], x.met());
            due("marked 0 3", Math.abs(a[0] - 500), x.marked(0, 3));
        }
    }

    /** GOOD, with one thing told on its edge and beyond it: the only one that stands against GOOD. */
    private static void good() {
        about("GOOD: no STEP with UNDERCUT 1 or 2, none STEEP, none that FLOATS, all MARKS MET");
        CamMaker x = Cams.peak(5, 10);
        x.speed(0);
        x.base(136);
        x.roller(146);
        due("count 13", 1, x.count(13));
        x.roller(147);
        due("count 13, UNDERCUT 1 at one STEP", 0, x.count(13));
        CamMaker y = Cams.cam(0, new int[] {24, 0, 0});
        y.base(1348);
        due("count 13", 1, y.count(13));
        y.base(1349);
        due("count 13, UNDERCUT 2", 0, y.count(13));
        CamMaker z = Cams.sample();
        z.steepest(15);
        due("count 13", 1, z.count(13));
        z.steepest(14);
        due("count 13, STEEP", 0, z.count(13));
        z.steepest(15);
        z.speed(236);
        due("count 13", 1, z.count(13));
        z.speed(237);
        due("count 13, one FLOATS", 0, z.count(13));
        z.speed(236);
        for (int i = 0; i < 8; i++) {
            z.mark(i, Math.min(12, 2 * i), 0);
            due("count 13, all MARKS MET", 1, z.count(13));
        }
        z.unmark(0);
        z.mark(23, 1, 0);
        due("count 13, the last of eight MARKS not MET", 0, z.count(13));
        z.unmark(7);
        z.unmark(0);
        z.mark(23, 0, 0);
        due("count 13", 1, z.count(13));
        z.drop();
        due("count 13, not WHOLE", 0, z.count(13));
    }

    private static void dueSizes(CamMaker x, int law, int next, int second, int third) {
        x.alter(0, 2, law);
        x.alter(1, 2, next);
        due("most 2 0 by " + law + " " + next, second, x.most(2, 0));
        due("most 3 0 by " + law + " " + next, third, x.most(3, 0));
    }

    private static void bestOrder() {
        about("the greatest size of SECOND is least, then that of THIRD, then the first row");
        CamMaker x = Cams.cam(0, new int[] {7, 28, 3}, new int[] {17, 0, 3});
        x.speed(0);
        dueSizes(x, 3, 0, 4, 3);
        dueSizes(x, 1, 0, 3, 6);
        dueSizes(x, 2, 0, 3, 4);
        dueSizes(x, 2, 1, 3, 4);
        dueSizes(x, 2, 3, 3, 4);
        dueBest("of three that are as good", x, 3, 4, 1, 2, 0);
        // In a SEGMENT of two STEPS every LAW has the half of the rise at the second one.
        CamMaker y = Cams.cam(0, new int[] {2, 10, 3}, new int[] {2, 0, 3}, new int[] {20, 0, 1});
        dueBest("all as good", y, 10, 10, 1, 0, 0, 1);
        CamMaker z = Cams.cam(0, new int[] {9, 24, 0}, new int[] {15, 0, 0});
        dueBest("of the last two rows, which are as good", z, 2, 2, 1, 3, 2);
    }

    private static void bestKeepsDwells() {
        about("each SEGMENT that is no DWELL (others keep theirs)");
        for (int law = 0; law < 4; law++) {
            CamMaker x = Cams.sample();
            x.alter(1, 2, law);
            x.alter(3, 2, 3 - law);
            dueBest("DWELLS by " + law + " and " + (3 - law), x, 1, 1, 1, 1, law, 1, 3 - law);
            due("of 0 2 stays", 0, x.of(0, 2));
            CamMaker y = Cams.cam(7, new int[] {24, 7, law});
            dueBest("a DWELL alone by " + law, y, 0, 0, 1, law);
        }
    }

    private static void bestByNoneGood() {
        about("those by which it is GOOD, or, if there are none, all");
        CamMaker x = Cams.sample();
        x.mark(0, 1, 0);
        dueBest("none GOOD by a MARK", x, 1, 1, 0, 1, 0, 1, 3);
        x.unmark(0);
        x.steepest(0);
        dueBest("none GOOD by STEEPEST", x, 1, 1, 0, 1, 0, 1, 3);
        x.steepest(577);
        x.base(1349);
        dueBest("none GOOD by UNDERCUT 2", x, 1, 1, 0, 1, 0, 1, 3);
        x.base(400);
        x.spring(0, 0, 1);
        dueBest("none GOOD by FORCE", x, 1, 1, 0, 1, 0, 1, 3);
        x.speed(0);
        dueBest("GOOD by SPEED 0", x, 1, 1, 1, 1, 0, 1, 3);
    }

    private static void bestByOneGood() {
        about("those by which it is GOOD");
        // LIFT of STEP 1 is 2, 1, 0, 0 by the LAWS, that of STEP 2 is 4, 3, 3, 2.
        int[][] marks = {{1, 2}, {1, 1}, {2, 3}, {2, 2}};
        int[] second = {2, 1, 3, 2};
        int[] third = {2, 1, 3, 2};
        for (int law = 0; law < 4; law++) {
            CamMaker x = Cams.sample();
            x.mark(marks[law][0], marks[law][1], 0);
            if (law == 2) {
                x.mark(1, 0, 0);
            }
            due("best 0 by a MARK that " + law + " meets", law, x.best(0));
            due("best 12", second[law], x.best(12));
            due("best 13", third[law], x.best(13));
            due("best 14", 1, x.best(14));
        }
        // BENT at most has a PRESS of 20, EVEN one of 15.
        CamMaker y = Cams.sample();
        y.steepest(15);
        dueBest("not STEEP by EVEN alone", y, 2, 2, 1, 0, 0, 0, 3);
        y.steepest(14);
        dueBest("STEEP by all", y, 1, 1, 0, 1, 0, 1, 3);
    }

    private static void theLastTwenty() {
        about("is taken BACK one by one, the last 20");
        for (int done : new int[] {1, 19, 20, 21, 39, 40, 41, 60}) {
            CamMaker x = new CamMaker();
            for (int i = 1; i <= done; i++) {
                x.start(i);
                due("count 14 behind " + i, Math.min(i, 20), x.count(14));
            }
            int most = Math.min(done, 20);
            for (int i = 1; i <= most; i++) {
                due("back, number " + i + " of " + done, true, x.back());
                due("count 2", done - i, x.count(2));
                due("count 14", most - i, x.count(14));
            }
            due("back, beyond", false, x.back());
            due("count 2", done - most, x.count(2));
        }
        CamMaker y = new CamMaker();
        for (int i = 1; i <= 30; i++) {
            y.base(100 + i);
            y.base(200 + i);
            due("back, each second one", true, y.back());
            due("count 3", 100 + i, y.count(3));
            due("count 14", Math.min(i, 19), y.count(14));
        }
    }

    private static void takenBackOneByOne() {
        about("What was done by segment(), alter(), .. unmark() (that could be) is taken BACK one by one");
        CamMaker x = new CamMaker();
        x.segment(12, 9, 1);
        x.segment(12, 0, 2);
        x.alter(0, 0, 11);
        x.alter(0, 1, 8);
        x.alter(0, 2, 3);
        x.drop();
        x.start(7);
        x.base(77);
        x.roller(78);
        x.spring(1, 2, 3);
        x.speed(4);
        x.steepest(5);
        x.slack(6);
        x.mark(3, 4, 5);
        x.mark(6, 7, 8);
        x.unmark(0);
        due("count 14", 16, x.count(14));
        // What is asked behind each taking BACK, and what is due then.
        int[] asked = {11, 11, 11, 10, 9, 8, 5, 4, 3, 2, 1};
        int[] was = {2, 1, 0, 1, 577, 100, 1000, 100, 400, 0, 2};
        int[] now = {1, 2, 1, 6, 5, 4, 1, 78, 77, 7, 1};
        for (int i = 0; i < asked.length; i++) {
            due("count " + asked[i] + " ahead", now[i], x.count(asked[i]));
            due("back", true, x.back());
            due("count " + asked[i] + " behind", was[i], x.count(asked[i]));
            if (i == 0) {
                due("marked 0 0", 3, x.marked(0, 0));
                due("marked 1 2", 8, x.marked(1, 2));
            }
        }
        int[][] parts = {{2, 3, 1}, {1, 8, 9}, {0, 11, 12}};
        for (int[] part : parts) {
            due("of 0 " + part[0] + " ahead", part[1], x.of(0, part[0]));
            due("back", true, x.back());
            due("of 0 " + part[0] + " behind", part[2], x.of(0, part[0]));
        }
        due("lift 6", 5, x.lift(6));
        due("back", true, x.back());
        due("count 1", 1, x.count(1));
        due("back", true, x.back());
        due("count 1", 0, x.count(1));
        due("back, nothing left", false, x.back());
    }

    private static void askedAgainBehindBack() {
        about("taken BACK: what follows from it, too");
        CamMaker x = Cams.sample();
        On[] calls = {c -> c.lift(3), c -> c.most(2, 0), c -> c.border(0), c -> c.undercut(6), c -> c.press(3),
            c -> c.force(0), c -> c.bad(3, NONE), c -> c.top(5), c -> c.met(), c -> c.best(0), c -> c.best(12),
            c -> c.limit(0), c -> c.limit(1), c -> c.limit(2), c -> c.count(13), c -> c.shape(3, 0)};
        On[] tell = {c -> c.alter(0, 2, 3), c -> c.alter(0, 1, 99), c -> c.base(10), c -> c.roller(9999),
            c -> c.slack(99), c -> c.speed(900), c -> c.steepest(3), c -> c.mark(3, 9, 0), c -> c.drop(),
            c -> c.start(5), c -> c.spring(0, 1, 2) ? 1 : 0, c -> c.alter(1, 0, 9)};
        long[] first = new long[calls.length];
        for (int i = 0; i < calls.length; i++) {
            first[i] = calls[i].answer(x);
        }
        for (int t = 0; t < tell.length; t++) {
            due("call " + t + " that tells", true, tell[t].answer(x) != NONE);
            due("lift 3 behind it", x.count(12) == 1, x.lift(3) != NONE);
            due("best 12 behind it", x.count(12) == 1, x.best(12) != NONE);
            due("back", true, x.back());
            for (int i = 0; i < calls.length; i++) {
                due("call " + i + " behind taking BACK call " + t, first[i], calls[i].answer(x));
            }
        }
    }

    private static void notTakenBack() {
        about("(that could be)");
        CamMaker x = new CamMaker();
        x.start(5);
        x.start(5);
        due("count 14, the same told again", 2, x.count(14));
        x.start(1000);
        x.segment(0, 0, 0);
        x.alter(0, 0, 1);
        x.drop();
        x.base(9);
        x.roller(0);
        x.spring(0, 0, 0);
        x.speed(-1);
        x.steepest(-1);
        x.slack(100);
        x.mark(24, 0, 0);
        x.unmark(0);
        x.steps(121);
        due("count 14, others", 2, x.count(14));
        due("back", true, x.back());
        due("count 2", 5, x.count(2));
        due("back", true, x.back());
        due("count 2", 0, x.count(2));
        due("back, which is not taken BACK itself", false, x.back());
        x.base(50);
        due("steps", 0, x.steps(24));
        due("back behind steps", false, x.back());
        due("count 3 stays", 50, x.count(3));
    }
}
