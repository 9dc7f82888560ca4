import java.util.Arrays;

/** Each promise of the document by itself: ordinary calls, the edges that it names, and wrong inputs. */
public final class PromisesTest extends Checks {
    public static void main(String[] args) {
        newObject();
        steps();
        segment();
        alter();
        drop();
        settings();
        spring();
        mark();
        unmark();
        back();
        backOfEachKind();
        of();
        lift();
        diff();
        most();
        border();
        shape();
        undercut();
        press();
        force();
        bad();
        firstSteps();
        top();
        met();
        marked();
        best();
        bestBySearch();
        limit();
        rollerBySearch();
        limitsAtTheirEnds();
        count();
        good();
        end();
    }

    private static void newObject() {
        about("promise 1");
        CamMaker x = new CamMaker();
        due("NONE", -1, CamMaker.NONE);
        int[] first = {24, 0, 0, 400, 100, 1000, 10, 10, 100, 577, 1, 0, 0, 0, 0, 0};
        for (int i = 0; i < first.length; i++) {
            due("count " + i, first[i], x.count(i));
        }
        due("back", false, x.back());
        due("drop", NONE, x.drop());
        due("of", NONE, x.of(0, 0));
        due("marked", NONE, x.marked(0, 0));
        due("segment, on another one", 0, new CamMaker().segment(1, 1, 1));
        due("count 1, of this one", 0, x.count(1));
    }

    private static void steps() {
        about("promise 2");
        CamMaker x = Cams.sample();
        x.start(7);
        x.base(33);
        x.mark(3, 6, 0);
        for (int n : new int[] {23, 121, 0, -1, -24, MIN, MAX}) {
            due("steps " + n, NONE, x.steps(n));
        }
        due("count 0 as it was", 24, x.count(0));
        due("count 1 as it was", 4, x.count(1));
        due("count 11 as it was", 1, x.count(11));
        due("count 14 as it was", 7, x.count(14));
        due("steps 24", 4, x.steps(24));
        due("count 1", 0, x.count(1));
        due("count 11", 0, x.count(11));
        due("count 14", 0, x.count(14));
        due("back", false, x.back());
        due("count 2 stays", 7, x.count(2));
        due("count 3 stays", 33, x.count(3));
        due("steps 120", 0, x.steps(120));
        due("count 0", 120, x.count(0));
        due("mark 119", 0, x.mark(119, 0, 0));
        due("segment", 0, x.segment(60, 999, 2));
        due("segment", 1, x.segment(60, 7, 2));
        due("lift 60", 999, x.lift(60));
        due("lift 119", 7, x.lift(119));
        due("lift 120", NONE, x.lift(120));
        due("steps 60", 2, x.steps(60));
        due("of", NONE, x.of(0, 0));
        due("marked", NONE, x.marked(0, 0));
        due("lift 0", NONE, x.lift(0));
    }

    private static void segment() {
        about("promise 3");
        CamMaker x = new CamMaker();
        int[][] others = {{0, 5, 0}, {61, 5, 0}, {-1, 5, 0}, {MIN, 5, 0}, {MAX, 5, 0}, {5, -1, 0}, {5, 1000, 0},
            {5, MIN, 0}, {5, MAX, 0}, {5, 5, -1}, {5, 5, 4}, {5, 5, MIN}, {5, 5, MAX}};
        for (int[] o : others) {
            due("segment " + o[0] + " " + o[1] + " " + o[2], NONE, x.segment(o[0], o[1], o[2]));
        }
        due("count 1", 0, x.count(1));
        due("count 14", 0, x.count(14));
        due("segment 1 0 0", 0, x.segment(1, 0, 0));
        due("segment 60 999 3", 1, x.segment(60, 999, 3));
        due("of 1 0", 60, x.of(1, 0));
        due("of 1 1", 999, x.of(1, 1));
        due("of 1 2", 3, x.of(1, 2));
        for (int i = 2; i < 12; i++) {
            due("segment, number " + i, i, x.segment(60, 1, 1));
        }
        due("count 15 beyond STEPS", 661, x.count(15));
        due("a thirteenth", NONE, x.segment(1, 1, 1));
        due("count 1", 12, x.count(1));
        due("count 14", 12, x.count(14));
        due("drop", 11, x.drop());
        due("segment again", 11, x.segment(1, 2, 0));
        due("of 11 1", 2, x.of(11, 1));
    }

    private static void alter() {
        about("promise 4");
        CamMaker x = Cams.sample();
        int[][] others = {{-1, 0, 5}, {4, 0, 5}, {12, 0, 5}, {MIN, 0, 5}, {MAX, 0, 5}, {0, -1, 1}, {0, 3, 1},
            {0, MIN, 1}, {0, MAX, 1}, {0, 0, 0}, {0, 0, 61}, {0, 0, MIN}, {0, 0, MAX}, {0, 1, -1}, {0, 1, 1000},
            {0, 1, MIN}, {0, 1, MAX}, {0, 2, -1}, {0, 2, 4}, {0, 2, MIN}, {0, 2, MAX}, {0x55555556, 0, 1}};
        for (int[] o : others) {
            due("alter " + o[0] + " " + o[1] + " " + o[2], NONE, x.alter(o[0], o[1], o[2]));
        }
        due("count 14", 4, x.count(14));
        due("alter 3 2 1", 3, x.alter(3, 2, 1));
        due("alter 3 2 0", 1, x.alter(3, 2, 0));
        due("alter 0 0 60", 6, x.alter(0, 0, 60));
        due("count 12, no longer WHOLE", 0, x.count(12));
        due("alter 0 0 1", 60, x.alter(0, 0, 1));
        due("alter 1 0 11", 6, x.alter(1, 0, 11));
        due("count 12", 1, x.count(12));
        due("alter 0 1 999", 12, x.alter(0, 1, 999));
        due("alter 0 1 0", 999, x.alter(0, 1, 0));
        due("alter to the same", 0, x.alter(0, 1, 0));
        due("count 14", 12, x.count(14));
        due("of 1 0", 11, x.of(1, 0));
        due("of 2 0 stays", 6, x.of(2, 0));
        due("lift 1", 0, x.lift(1));
        due("alter the last END", 0, x.alter(3, 1, 5));
        due("lift 1, not WHOLE", NONE, x.lift(1));
    }

    private static void drop() {
        about("promise 5");
        CamMaker x = Cams.sample();
        due("drop", 3, x.drop());
        due("count 15", 18, x.count(15));
        due("of 3 0", NONE, x.of(3, 0));
        due("alter 3", NONE, x.alter(3, 0, 5));
        due("lift, not WHOLE", NONE, x.lift(0));
        due("drop", 2, x.drop());
        due("drop", 1, x.drop());
        due("drop", 0, x.drop());
        due("drop", NONE, x.drop());
        due("count 14", 8, x.count(14));
    }

    private static int put(CamMaker x, int setting, int v) {
        switch (setting) {
            case 2:
                return x.start(v);
            case 3:
                return x.base(v);
            case 4:
                return x.roller(v);
            case 8:
                return x.speed(v);
            case 9:
                return x.steepest(v);
            default:
                return x.slack(v);
        }
    }

    private static void setting(int number, int setting, int first, int least, int greatest) {
        about("promise " + number);
        CamMaker x = new CamMaker();
        for (int v : new int[] {least - 1, greatest + 1, -1 - least, MIN, MAX}) {
            due("set to " + v, NONE, put(x, setting, v));
        }
        due("count as at first", first, x.count(setting));
        due("count 14", 0, x.count(14));
        due("set to the least", first, put(x, setting, least));
        due("count", least, x.count(setting));
        due("set to the greatest", least, put(x, setting, greatest));
        due("count", greatest, x.count(setting));
        due("set to the same", greatest, put(x, setting, greatest));
        due("count 14", 3, x.count(14));
        for (int other = 0; other < 12; other++) {
            due("count " + other, other == setting ? greatest : new CamMaker().count(other), x.count(other));
        }
    }

    private static void settings() {
        setting(6, 2, 0, 0, 999);
        setting(7, 3, 400, 10, 9999);
        setting(8, 4, 100, 1, 9999);
        setting(10, 8, 100, 0, 9999);
        setting(11, 9, 577, 0, 9999);
        setting(12, 10, 1, 0, 99);
        about("promise 6");
        CamMaker x = Cams.sample();
        x.start(12);
        due("lift, not WHOLE", NONE, x.lift(0));
        x.alter(3, 1, 12);
        due("of 0 5, a DWELL now", 1, x.of(0, 5));
        due("lift 0", 12, x.lift(0));
        due("lift 21", 6, x.lift(21));
    }

    private static void spring() {
        about("promise 9");
        CamMaker x = new CamMaker();
        int[][] others = {{-1, 1, 1}, {100000, 1, 1}, {MIN, 1, 1}, {MAX, 1, 1}, {1, -1, 1}, {1, 1000, 1}, {1, MIN, 1},
            {1, MAX, 1}, {1, 1, 0}, {1, 1, 1000}, {1, 1, -1}, {1, 1, MIN}, {1, 1, MAX}};
        for (int[] o : others) {
            due("spring " + o[0] + " " + o[1] + " " + o[2], false, x.spring(o[0], o[1], o[2]));
        }
        due("count 5", 1000, x.count(5));
        due("count 6", 10, x.count(6));
        due("count 7", 10, x.count(7));
        due("count 14", 0, x.count(14));
        due("spring 0 0 1", true, x.spring(0, 0, 1));
        due("spring 99999 999 998", true, x.spring(99999, 999, 998));
        due("count 5", 99999, x.count(5));
        due("count 6", 999, x.count(6));
        due("count 7", 998, x.count(7));
        due("spring 5 6 999", true, x.spring(5, 6, 999));
        due("count 14", 3, x.count(14));
        due("back", true, x.back());
        due("count 5", 99999, x.count(5));
        due("count 6", 999, x.count(6));
        due("count 7", 998, x.count(7));
    }

    private static void mark() {
        about("promise 13");
        CamMaker x = new CamMaker();
        int[][] others = {{-1, 1, 1}, {24, 1, 1}, {MIN, 1, 1}, {MAX, 1, 1}, {1, -1, 1}, {1, 1000, 1}, {1, MIN, 1},
            {1, MAX, 1}, {1, 1, -1}, {1, 1, 100}, {1, 1, MIN}, {1, 1, MAX}};
        for (int[] o : others) {
            due("mark " + o[0] + " " + o[1] + " " + o[2], NONE, x.mark(o[0], o[1], o[2]));
        }
        due("count 11", 0, x.count(11));
        due("mark 0 0 0", 0, x.mark(0, 0, 0));
        due("mark 23 999 99", 1, x.mark(23, 999, 99));
        for (int i = 2; i < 8; i++) {
            due("mark, number " + i, i, x.mark(5, i, 0));
        }
        due("a ninth", NONE, x.mark(5, 5, 5));
        due("count 11", 8, x.count(11));
        due("count 14", 8, x.count(14));
        due("marked 1 1", 999, x.marked(1, 1));
        x.steps(120);
        due("mark 119", 0, x.mark(119, 1, 1));
        due("mark 120", NONE, x.mark(120, 1, 1));
    }

    private static void unmark() {
        about("promise 14");
        CamMaker x = new CamMaker();
        due("unmark, none there", false, x.unmark(0));
        for (int i = 0; i < 8; i++) {
            x.mark(i, 10 * i, 2 * i);
        }
        for (int mark : new int[] {-1, 8, MIN, MAX, 0x55555556}) {
            due("unmark " + mark, false, x.unmark(mark));
        }
        due("unmark 3", true, x.unmark(3));
        due("count 11", 7, x.count(11));
        for (int i = 0; i < 7; i++) {
            int was = i < 3 ? i : i + 1;
            due("marked 0 of " + i, was, x.marked(i, 0));
            due("marked 1 of " + i, 10 * was, x.marked(i, 1));
            due("marked 2 of " + i, 2 * was, x.marked(i, 2));
        }
        due("unmark 7, gone", false, x.unmark(7));
        due("unmark the last", true, x.unmark(6));
        due("marked 5 1", 60, x.marked(5, 1));
        due("unmark the first", true, x.unmark(0));
        due("marked 0 1", 10, x.marked(0, 1));
        due("count 14", 11, x.count(14));
        due("back", true, x.back());
        due("marked 0 1", 0, x.marked(0, 1));
    }

    private static void back() {
        about("promise 15");
        CamMaker x = new CamMaker();
        for (int i = 1; i <= 25; i++) {
            x.start(i);
            x.start(1000);
            x.segment(0, 0, 0);
            due("count 14", Math.min(i, 20), x.count(14));
        }
        for (int i = 24; i >= 5; i--) {
            due("back", true, x.back());
            due("count 2", i, x.count(2));
        }
        due("back, more than 20", false, x.back());
        due("count 2", 5, x.count(2));
        due("count 14", 0, x.count(14));
        x.start(77);
        due("back", true, x.back());
        due("count 2", 5, x.count(2));
        for (int i = 0; i < 3; i++) {
            x.base(100 + i);
        }
        x.back();
        x.base(200);
        due("count 14", 3, x.count(14));
        x.back();
        due("count 3", 101, x.count(3));
        due("steps 23", NONE, x.steps(23));
        due("count 14", 2, x.count(14));
        x.steps(24);
        due("back behind steps", false, x.back());
        due("count 3", 101, x.count(3));
    }

    private static void backOfEachKind() {
        about("promise 15");
        CamMaker x = Cams.sample();
        x.mark(3, 6, 1);
        x.alter(2, 2, 1);
        x.drop();
        x.back();
        due("drop taken back: count 12", 1, x.count(12));
        due("drop taken back: of 3 2", 3, x.of(3, 2));
        due("lift 14", 9, x.lift(14));
        x.back();
        due("alter taken back: lift 14", 8, x.lift(14));
        x.back();
        due("mark taken back: count 11", 0, x.count(11));
        x.roller(7);
        x.speed(8);
        x.steepest(9);
        x.slack(10);
        due("count 10", 10, x.count(10));
        x.back();
        due("slack", 1, x.count(10));
        x.back();
        due("steepest", 577, x.count(9));
        x.back();
        due("speed", 100, x.count(8));
        x.back();
        due("roller", 100, x.count(4));
        due("what follows, too", 500, x.shape(0, 0));
        x.segment(1, 1, 1);
        x.back();
        due("segment taken back", 4, x.count(1));
        x.drop();
        x.segment(6, 0, 2);
        x.back();
        x.back();
        due("of 3 2 as it was told", 3, x.of(3, 2));
        due("best asked first", 1, x.best(0));
        x.alter(0, 1, 0);
        x.alter(1, 1, 0);
        due("best of DWELLS", 0, x.best(0));
        x.back();
        x.back();
        due("best again", 1, x.best(0));
    }

    private static void of() {
        about("promise 16");
        CamMaker x = new CamMaker();
        x.start(5);
        x.segment(20, 5, 1);
        x.segment(30, 9, 2);
        x.segment(40, 9, 3);
        int[][] all = {{20, 5, 1, 5, 0, 1}, {30, 9, 2, 5, 20, 0}, {40, 9, 3, 9, 50, 1}};
        for (int segment = 0; segment < 3; segment++) {
            for (int what = 0; what < 6; what++) {
                due("of " + segment + " " + what, all[segment][what], x.of(segment, what));
            }
            for (int what : new int[] {-1, 6, MIN, MAX}) {
                due("of " + segment + " " + what, NONE, x.of(segment, what));
            }
        }
        for (int segment : new int[] {-1, 3, 11, 12, MIN, MAX, 0x55555556, -0x55555555}) {
            for (int what = 0; what < 6; what++) {
                due("of " + segment + " " + what, NONE, x.of(segment, what));
            }
        }
        x.start(6);
        due("of 0 5, from another START", 0, x.of(0, 5));
        due("of 0 3", 6, x.of(0, 3));
    }

    private static void lift() {
        about("promise 17");
        CamMaker x = Cams.sample();
        dueLifts("EVEN", x, 0, 0, 2, 4, 6, 8, 10, 12, 12, 12, 12, 12, 12, 12, 10, 8, 6, 4, 2, 0, 0, 0, 0, 0, 0);
        for (int step : new int[] {-1, 24, 25, 120, MIN, MAX}) {
            due("lift " + step, NONE, x.lift(step));
        }
        x.alter(0, 2, 1);
        dueLifts("BENT up", x, 0, 0, 1, 3, 6, 9, 11, 12);
        x.alter(0, 2, 2);
        dueLifts("SMOOTH up", x, 0, 0, 0, 3, 6, 9, 12, 12);
        x.alter(0, 2, 3);
        dueLifts("SOFT up", x, 0, 0, 0, 2, 6, 10, 12, 12);
        x.alter(2, 2, 1);
        dueLifts("BENT down", x, 12, 12, 11, 9, 6, 3, 1, 0);
        x.alter(2, 2, 2);
        dueLifts("SMOOTH down", x, 12, 12, 12, 9, 6, 3, 0, 0);
        x.alter(2, 2, 3);
        dueLifts("SOFT down", x, 12, 12, 12, 10, 6, 2, 0, 0);
        x.start(1);
        due("lift, last END not START", NONE, x.lift(0));
        x.back();
        x.alter(3, 0, 5);
        due("lift, LONG not STEPS", NONE, x.lift(0));
        x.alter(3, 0, 7);
        due("lift, LONG more than STEPS", NONE, x.lift(0));
        halves();
        longSegments();
    }

    private static void halves() {
        for (int law = 0; law < 4; law++) {
            CamMaker x = new CamMaker();
            x.segment(2, 3, law);
            x.segment(2, 0, law);
            x.segment(2, 1, law);
            x.segment(18, 0, law);
            dueLifts("halves by law " + law, x, 0, 0, 2, 3, 2, 0, 1, 1);
            due("lift 15, the half way down", 1, x.lift(15));
        }
    }

    private static void longSegments() {
        CamMaker x = new CamMaker();
        x.steps(120);
        x.segment(60, 999, 3);
        x.segment(60, 0, 3);
        // By SOFT a third of the way has 379 / 2187 of the rise, and its half the half of it.
        due("SOFT, a third", 173, x.lift(20));
        due("SOFT, the half", 500, x.lift(30));
        due("SOFT, two thirds", 826, x.lift(40));
        due("SOFT, a third down", 826, x.lift(80));
        due("SOFT, the half down", 500, x.lift(90));
        // By SMOOTH a third has 17 / 81.
        x.alter(0, 2, 2);
        x.alter(1, 2, 2);
        due("SMOOTH, a third", 210, x.lift(20));
        due("SMOOTH, two thirds", 789, x.lift(40));
        due("SMOOTH, two thirds down", 210, x.lift(100));
        x.alter(0, 2, 1);
        due("BENT, a third", 222, x.lift(20));
        due("BENT, two thirds", 777, x.lift(40));
        x.alter(0, 2, 0);
        due("EVEN, a third", 333, x.lift(20));
    }

    private static void diff() {
        about("promise 18");
        CamMaker x = Cams.sample();
        int[][] all = {{0, 1, 2}, {5, 1, 2}, {6, 1, 0}, {12, 1, -2}, {17, 1, -2}, {23, 1, 0}, {0, 2, 2}, {1, 2, 0},
            {6, 2, -2}, {12, 2, -2}, {18, 2, 2}, {23, 2, 0}, {0, 3, -2}, {5, 3, -2}, {6, 3, 2}, {11, 3, -2}, {12, 3, 2},
            {17, 3, 2}, {18, 3, -2}, {22, 3, 0}, {23, 3, 2}};
        for (int[] d : all) {
            due("diff " + d[0] + " " + d[1], d[2], x.diff(d[0], d[1]));
        }
        for (int step : new int[] {-1, 24, 120, MIN, MAX}) {
            dueThrow("diff " + step + " 1", () -> x.diff(step, 1));
        }
        for (int which : new int[] {-1, 0, 4, 11, MIN, MAX}) {
            dueThrow("diff 0 " + which, () -> x.diff(0, which));
        }
        CamMaker y = Cams.peak(23, 999);
        due("diff 22 1", 999, y.diff(22, 1));
        due("diff 23 1, round to STEP 0", -999, y.diff(23, 1));
        due("diff 23 2", -1998, y.diff(23, 2));
        due("diff 0 2", 999, y.diff(0, 2));
        due("diff 22 3", -2997, y.diff(22, 3));
        due("diff 23 3", 2997, y.diff(23, 3));
        x.drop();
        dueThrow("diff, not WHOLE", () -> x.diff(0, 1));
    }

    private static void most() {
        about("promise 19");
        CamMaker x = Cams.sample();
        int[][] all = {{2, 0, 12}, {2, 0, 4}, {2, 0, 8}};
        for (int which = 1; which <= 3; which++) {
            for (int what = 0; what < 3; what++) {
                due("most " + which + " " + what, all[which - 1][what], x.most(which, what));
            }
        }
        CamMaker y = Cams.peak(5, 7);
        due("most 1 0", 7, y.most(1, 0));
        due("most 1 1", 4, y.most(1, 1));
        due("most 1 2", 2, y.most(1, 2));
        due("most 2 0", 14, y.most(2, 0));
        due("most 2 1", 5, y.most(2, 1));
        due("most 2 2", 1, y.most(2, 2));
        due("most 3 0", 21, y.most(3, 0));
        due("most 3 1", 4, y.most(3, 1));
        due("most 3 2", 2, y.most(3, 2));
        CamMaker z = new CamMaker();
        z.segment(24, 0, 3);
        due("all DWELL: most 2 0", 0, z.most(2, 0));
        due("all DWELL: most 2 1", 0, z.most(2, 1));
        due("all DWELL: most 2 2", 24, z.most(2, 2));
        for (int other : new int[] {-1, 0, 4, MIN, MAX}) {
            due("most " + other + " 0", NONE, x.most(other, 0));
        }
        for (int other : new int[] {-1, 3, MIN, MAX}) {
            due("most 1 " + other, NONE, x.most(1, other));
        }
        x.drop();
        due("most, not WHOLE", NONE, x.most(1, 0));
    }

    private static void border() {
        about("promise 20");
        CamMaker x = Cams.sample();
        due("border 0", 0, x.border(0));
        x.slack(2);
        for (int segment = 0; segment < 4; segment++) {
            due("border " + segment + " by 2", 2, x.border(segment));
        }
        x.slack(3);
        due("border 0 by 3", 2, x.border(0));
        x.slack(4);
        due("border 0 by 4", 3, x.border(0));
        for (int segment : new int[] {-1, 4, 12, MIN, MAX}) {
            due("border " + segment, NONE, x.border(segment));
        }
        // FIRST goes from 1 to 2, SECOND from 0 to 1 and back: so THIRD from 1 to -1.
        CamMaker y = new CamMaker();
        y.segment(6, 6, 0);
        y.segment(6, 18, 0);
        y.segment(12, 0, 0);
        due("border 1 by 1", 2, y.border(1));
        y.slack(0);
        due("border 1 by 0", 0, y.border(1));
        y.slack(2);
        due("border 1 by 2", 3, y.border(1));
        // FIRST of the STEPS 3, 4, 5 and 6 is 0, 1, 2 and 1.
        CamMaker w = new CamMaker();
        w.segment(4, 0, 0);
        w.segment(1, 1, 0);
        w.segment(1, 3, 0);
        w.segment(1, 4, 0);
        w.segment(17, 0, 0);
        due("border 2: FIRST 1 and 2, SECOND 1 and 1, THIRD 0 and -2", 2, w.border(2));
        due("border 3: FIRST 2 and 1, SECOND 1 and -1", 1, w.border(3));
        CamMaker z = new CamMaker();
        z.segment(12, 0, 0);
        z.segment(12, 0, 0);
        z.slack(0);
        due("border 1 of DWELLS", 3, z.border(1));
        z.drop();
        due("border, not WHOLE", NONE, z.border(0));
    }

    private static void shape() {
        about("promise 21");
        CamMaker x = Cams.sample();
        long[][] all = {{0, 500, 3, 29, 235518}, {3, 506, 7, 0, 256134}, {12, 512, -4, -30, 277536},
            {18, 500, -4, 29, 235532}, {21, 500, 0, 0, 250000}};
        for (long[] a : all) {
            for (int what = 0; what < 4; what++) {
                due("shape " + a[0] + " " + what, a[what + 1], x.shape((int) a[0], what));
            }
        }
        for (int step : new int[] {-1, 24, MIN, MAX}) {
            dueThrow("shape " + step + " 0", () -> x.shape(step, 0));
        }
        for (int what : new int[] {-1, 4, -4, 5, 6, MIN, MAX}) {
            dueThrow("shape 0 " + what, () -> x.shape(0, what));
        }
        x.base(9999);
        x.roller(9999);
        due("shape 0 0", 19998, x.shape(0, 0));
        due("shape 0 3", 19998L * 19998 + 18 - 19998 * 29, x.shape(0, 3));
        x.drop();
        dueThrow("shape, not WHOLE", () -> x.shape(0, 0));
        // The greatest numbers there can be: 120 STEPS and a peak of one STEP.
        CamMaker y = new CamMaker();
        y.steps(120);
        y.segment(59, 0, 0);
        y.segment(1, 999, 0);
        y.segment(1, 0, 0);
        y.segment(59, 0, 0);
        y.roller(9999);
        y.base(9999);
        due("shape 60 2", -728783, y.shape(60, 2));
        due("shape 60 3", 20997L * 20997 + 20997L * 728783, y.shape(60, 3));
        due("shape 59 1", 9539, y.shape(59, 1));
        due("shape 61 1", -9540, y.shape(61, 1));
    }

    private static void undercut() {
        about("promise 22");
        CamMaker x = Cams.sample();
        for (int i = 0; i < 24; i++) {
            due("undercut " + i, 0, x.undercut(i));
        }
        x.base(10);
        for (int i = 0; i < 24; i++) {
            due("undercut by BASE 10 of " + i, i == 6 || i == 12 ? 1 : 0, x.undercut(i));
        }
        for (int step : new int[] {-1, 24, MIN, MAX}) {
            due("undercut " + step, NONE, x.undercut(step));
        }
        numbersThatAreNoLong();
        equalPowers();
        // In so deep a hollow BEND is not above 0, whatever the ROLLER.
        CamMaker y = new CamMaker();
        y.start(900);
        y.segment(4, 900, 0);
        y.segment(1, 0, 0);
        y.segment(1, 900, 0);
        y.segment(18, 900, 0);
        due("shape 5 3", 500L * 500 - 500L * 26262, y.shape(5, 3));
        due("undercut 5", 0, y.undercut(5));
        y.roller(9999);
        due("undercut 5 by 9999", 0, y.undercut(5));
        due("undercut 4 by 9999", 2, y.undercut(4));
        x.drop();
        due("undercut, not WHOLE", NONE, x.undercut(0));
    }

    private static void numbersThatAreNoLong() {
        CamMaker x = new CamMaker();
        x.segment(24, 0, 0);
        x.base(1348);
        due("a FAR of 1448", 0, x.undercut(0));
        x.base(1349);
        due("a FAR of 1449", 2, x.undercut(0));
        x.base(10);
        x.roller(1438);
        due("a FAR of 1448 by ROLLER alone", 0, x.undercut(0));
        x.roller(1439);
        due("a FAR of 1449 by ROLLER alone", 2, x.undercut(0));
        // The third power is a long here, but ROLLER ROLLER BEND BEND is none any longer from ROLLER 92 on.
        CamMaker y = Cams.peak(5, 999);
        y.base(10);
        y.roller(91);
        due("shape 5 3", 1100L * 1100 + 1100L * 29152, y.shape(5, 3));
        due("undercut 5 by 91", 1, y.undercut(5));
        y.roller(92);
        due("undercut 5 by 92", 2, y.undercut(5));
        // F F + V V is 2 to the 21st here, whose third power is the first number that is no long.
        CamMaker z = new CamMaker();
        z.start(600);
        z.segment(4, 600, 0);
        z.segment(1, 332, 0);
        z.segment(1, 64, 0);
        z.segment(18, 600, 0);
        z.base(591);
        z.roller(101);
        due("shape 5 0", 1024, z.shape(5, 0));
        due("shape 5 1", -1024, z.shape(5, 1));
        due("undercut 5", 2, z.undercut(5));
        z.base(590);
        due("undercut 5 by BASE 590", 0, z.undercut(5));
    }

    private static void equalPowers() {
        // With V 0 and A -292, twice BASE and LIFT, the two powers are equal by a ROLLER of 146.
        CamMaker x = Cams.peak(5, 10);
        x.base(136);
        x.roller(146);
        due("shape 5 2", -292, x.shape(5, 2));
        due("undercut 5, equal powers", 0, x.undercut(5));
        x.roller(147);
        due("undercut 5 by 147", 1, x.undercut(5));
        // A hollow of 600 has a V of 0 and an A of 17508: by a FAR as great BEND is 0.
        CamMaker y = new CamMaker();
        y.start(600);
        y.segment(4, 600, 0);
        y.segment(1, 0, 0);
        y.segment(1, 600, 0);
        y.segment(18, 600, 0);
        y.base(9999);
        y.roller(7509);
        due("shape 5 3", 0, y.shape(5, 3));
        due("undercut 5 by BEND 0", 0, y.undercut(5));
        y.roller(7510);
        due("undercut 5 by BEND above 0", 2, y.undercut(5));
    }

    private static void press() {
        about("promise 23");
        CamMaker x = Cams.sample();
        int[][] all = {{0, 6}, {3, 13}, {5, 13}, {6, 5}, {9, 0}, {12, 7}, {13, 15}, {15, 15}, {17, 15}, {18, 8},
            {21, 0}};
        for (int[] a : all) {
            due("press " + a[0], a[1], x.press(a[0]));
        }
        x.base(10);
        x.roller(1);
        due("press 3 by a FAR of 17", 411, x.press(3));
        due("press 14 by a FAR of 19", 421, x.press(14));
        for (int step : new int[] {-1, 24, MIN, MAX}) {
            due("press " + step, NONE, x.press(step));
        }
        x.drop();
        due("press, not WHOLE", NONE, x.press(0));
    }

    private static void force() {
        about("promise 24");
        CamMaker x = Cams.sample();
        long[][] all = {{0, 1200}, {1, 1020}, {6, 920}, {9, 1120}, {12, 920}, {18, 1200}, {21, 1000}};
        for (long[] a : all) {
            due("force " + a[0], a[1], x.force((int) a[0]));
        }
        x.spring(5, 1, 3);
        x.speed(10);
        // 3 times 100 times 2 by 1000, cut downwards: 0 or -1.
        due("force 0", 5, x.force(0));
        due("force 6", 16, x.force(6));
        for (int step : new int[] {-1, 24, MIN, MAX}) {
            dueThrow("force " + step, () -> x.force(step));
        }
        CamMaker y = Cams.peak(5, 999);
        y.spring(99999, 999, 999);
        y.speed(9999);
        due("force 5", 99999 + 999 * 999 + Math.floorDiv(999L * 9999 * 9999 * -1998, 1000L), y.force(5));
        due("force 4", 99999 + Math.floorDiv(999L * 9999 * 9999 * 999, 1000L), y.force(4));
        y.speed(0);
        due("force 5 by SPEED 0", 99999 + 999 * 999, y.force(5));
        x.drop();
        dueThrow("force, not WHOLE", () -> x.force(0));
    }

    private static void bad() {
        about("promise 25");
        CamMaker x = Cams.sample();
        for (int what = 0; what < 4; what++) {
            due("bad " + what + " NONE", 0, x.bad(what, NONE));
            due("bad " + what + " 0", NONE, x.bad(what, 0));
        }
        x.steepest(10);
        dueBad(x, 2, 1, 2, 3, 4, 5, 13, 14, 15, 16, 17);
        x.steepest(13);
        dueBad(x, 2, 13, 14, 15, 16, 17);
        x.steepest(15);
        dueBad(x, 2);
        x.speed(237);
        dueBad(x, 3, 6, 12);
        x.speed(236);
        dueBad(x, 3);
        x.base(10);
        dueBad(x, 0, 6, 12);
        dueBad(x, 1);
        x.base(1340);
        // A FAR of 1440 and LIFT: with V and LIFT up to 8 its square is a long's third power still.
        dueBad(x, 0);
        dueBad(x, 1, 5, 6, 7, 8, 9, 10, 11, 12, 13);
        for (int what : new int[] {-1, 4, MIN, MAX}) {
            due("bad " + what + " NONE", NONE, x.bad(what, NONE));
            due("bad " + what + " 0", NONE, x.bad(what, 0));
        }
        for (int i : new int[] {-2, MIN, 9, 24, MAX}) {
            due("bad 1 " + i, NONE, x.bad(1, i));
        }
        x.drop();
        due("bad, not WHOLE", NONE, x.bad(1, NONE));
        due("bad, not WHOLE", NONE, x.bad(1, 0));
    }

    private static void firstSteps() {
        about("promise 25");
        for (int step = 0; step < 2; step++) {
            CamMaker x = Cams.earlyPeak(step, 50);
            x.spring(1, 0, 1);
            dueBad(x, 3, step);
            due("least FORCE", step, x.top(2));
            due("greatest LIFT", step, x.top(4));
            due("greatest SECOND", step, x.most(2, 1));
            due("GOOD", 0, x.count(13));
            due("greatest SPEED", 3, x.limit(2));
            x.spring(99999, 0, 1);
            x.base(10);
            x.roller(1);
            dueBad(x, 0);
            x.roller(1 + x.limit(0));
            dueBad(x, 0, step);
            due("greatest LIFT", 50, x.top(3));
        }
        CamMaker y = Cams.sample();
        y.spring(0, 0, 1);
        y.speed(0);
        dueBad(y, 3);
        y.speed(1);
        dueBad(y, 3, 6, 12);
    }

    private static void top() {
        about("promise 26");
        CamMaker x = Cams.sample();
        int[] all = {15, 13, 6, 12, 6, 144};
        for (int what = 0; what < 6; what++) {
            due("top " + what, all[what], x.top(what));
        }
        for (int what : new int[] {-1, 6, MIN, MAX}) {
            due("top " + what, NONE, x.top(what));
        }
        CamMaker y = Cams.peak(5, 999);
        due("top 0", 3816, y.top(0));
        due("top 1", 6, y.top(1));
        due("top 2", 5, y.top(2));
        due("top 3", 999, y.top(3));
        due("top 4", 5, y.top(4));
        due("top 5", 999, y.top(5));
        CamMaker z = new CamMaker();
        z.steps(120);
        z.start(999);
        z.segment(60, 999, 0);
        z.segment(60, 999, 0);
        int[] still = {0, 0, 0, 999, 0, 119880};
        for (int what = 0; what < 6; what++) {
            due("all DWELL: top " + what, still[what], z.top(what));
        }
        x.drop();
        due("top, not WHOLE", NONE, x.top(0));
    }

    private static void met() {
        about("promise 27");
        CamMaker x = Cams.sample();
        due("met, no MARKS", 0, x.met());
        x.mark(3, 6, 0);
        x.mark(3, 7, 0);
        x.mark(3, 7, 1);
        x.mark(3, 5, 1);
        x.mark(3, 4, 1);
        x.mark(23, 99, 99);
        x.mark(23, 100, 99);
        x.mark(6, 12, 0);
        due("met", 1 + 4 + 8 + 32 + 128, x.met());
        x.unmark(1);
        due("met", 1 + 2 + 4 + 16 + 64, x.met());
        x.alter(0, 1, 0);
        due("met by other LIFTS", 16, x.met());
        x.drop();
        due("met, not WHOLE", NONE, x.met());
    }

    private static void marked() {
        about("promise 28");
        CamMaker x = Cams.sample();
        x.mark(3, 9, 20);
        x.mark(13, 2, 5);
        int[][] all = {{3, 9, 20, 3}, {13, 2, 5, 8}};
        for (int mark = 0; mark < 2; mark++) {
            for (int what = 0; what < 4; what++) {
                due("marked " + mark + " " + what, all[mark][what], x.marked(mark, what));
            }
        }
        for (int what : new int[] {-1, 4, MIN, MAX}) {
            due("marked 0 " + what, NONE, x.marked(0, what));
        }
        for (int mark : new int[] {-1, 2, 8, MIN, MAX, 0x55555556}) {
            for (int what = 0; what < 4; what++) {
                due("marked " + mark + " " + what, NONE, x.marked(mark, what));
            }
        }
        x.drop();
        due("marked 0 0, not WHOLE", 3, x.marked(0, 0));
        due("marked 0 2, not WHOLE", 20, x.marked(0, 2));
        due("marked 0 3, not WHOLE", NONE, x.marked(0, 3));
    }

    private static void best() {
        about("promise 29");
        CamMaker x = Cams.sample();
        dueBest("sample", x, 1, 1, 1, 1, 0, 1, 3);
        due("the LAWS stay", 0, x.of(0, 2));
        due("nothing was done", 4, x.count(14));
        for (int what : new int[] {-1, 15, 24, MIN, MAX}) {
            due("best " + what, NONE, x.best(what));
        }
        x.mark(0, 999, 0);
        dueBest("GOOD by none", x, 1, 1, 0, 1, 0, 1, 3);
        x.back();
        x.mark(1, 2, 0);
        dueBest("a MARK that EVEN alone meets", x, 2, 2, 1, 0, 0, 0, 3);
        x.alter(2, 1, 12);
        x.alter(3, 1, 12);
        due("best, not WHOLE", NONE, x.best(0));
        due("best 14, not WHOLE", NONE, x.best(14));
        x.start(12);
        x.unmark(0);
        dueBest("all DWELL", x, 0, 0, 1, 0, 0, 0, 3);
        CamMaker y = Cams.peak(5, 5);
        y.alter(1, 2, 2);
        y.alter(2, 2, 3);
        dueBest("SEGMENTS of one STEP", y, 10, 15, 1, 0, 0, 0, 0);
        CamMaker z = new CamMaker();
        for (int i = 1; i <= 6; i++) {
            z.segment(3, i % 6, 3);
        }
        z.segment(6, 0, 2);
        due("six are no DWELL", 2, z.best(6));
        z.drop();
        z.segment(3, 1, 3);
        z.segment(3, 0, 3);
        due("eight are no DWELL", NONE, z.best(0));
        due("eight are no DWELL", NONE, z.best(12));
        z.alter(3, 1, 3);
        due("seven are no DWELL", NONE, z.best(0));
        z.back();
        z.alter(7, 1, 1);
        z.start(1);
        due("count 12", 1, z.count(12));
        due("six are no DWELL again", 3, z.best(7));
    }

    private static void bestBySearch() {
        about("promise 29");
        CamMaker[] cams = {
            Cams.cam(0, new int[] {8, 40, 0}, new int[] {7, 90, 0}, new int[] {9, 30, 0}, new int[] {8, 0, 0}),
            Cams.cam(0, new int[] {8, 5, 0}, new int[] {7, 6, 0}, new int[] {9, 7, 0}, new int[] {8, 0, 0}),
            Cams.cam(9, new int[] {30, 300, 0}, new int[] {20, 10, 0}, new int[] {2, 11, 0}, new int[] {28, 9, 0}),
            Cams.cam(20, new int[] {8, 0, 0}, new int[] {8, 20, 0}, new int[] {8, 0, 0}, new int[] {8, 20, 2}),
            Cams.cam(0, new int[] {23, 50, 0}, new int[] {1, 0, 3}),
            Cams.cam(0, new int[] {1, 50, 2}, new int[] {1, 40, 2}, new int[] {22, 0, 3}),
            Cams.cam(7, new int[] {2, 9, 0}, new int[] {1, 11, 1}, new int[] {2, 13, 3}, new int[] {17, 13, 3},
                new int[] {2, 7, 2}),
            Cams.cam(9, new int[] {7, 0, 1}, new int[] {1, 6, 1}, new int[] {7, 14, 1}, new int[] {9, 9, 0}),
            Cams.cam(3, new int[] {10, 3, 2}, new int[] {5, 30, 1}, new int[] {1, 31, 1}, new int[] {5, 3, 3},
                new int[] {10, 3, 3})};
        for (int c = 0; c < cams.length; c++) {
            CamMaker x = cams[c];
            dueBestBySearch("cam " + c, x);
            x.steepest(150);
            for (int i = 0; i < x.count(1); i++) {
                // The LAWS by which the MARKS are MET; those of DWELLS are kept.
                x.alter(i, 2, x.of(i, 5) == 1 ? x.of(i, 2) : i % 2);
            }
            x.mark(3, x.lift(3), 1);
            x.mark(20, x.lift(20), 2);
            dueBestBySearch("cam " + c + " with MARKS", x);
            x.mark(22, x.lift(22) + 1, 0);
            x.base(20);
            dueBestBySearch("cam " + c + " with MARKS and a small BASE", x);
        }
    }

    /** BEST told by trying all rows, each on a new object, by the calls that tell what is GOOD. */
    private static void dueBestBySearch(String what, CamMaker x) {
        Told told = new Told(x);
        int n = told.segments();
        int[] best = null;
        boolean more = true;
        for (int i = 0; i < n; i++) {
            told.setLaw(i, told.dwells(i) ? told.law(i) : 0);
        }
        while (more) {
            int[] found = rowOf(told);
            if (best == null || found[n + 2] > best[n + 2] || found[n + 2] == best[n + 2]
                    && (found[n] < best[n] || found[n] == best[n] && found[n + 1] < best[n + 1])) {
                best = found;
            }
            more = false;
            for (int i = n - 1; i >= 0 && !more; i--) {
                if (!told.dwells(i)) {
                    told.setLaw(i, (told.law(i) + 1) % 4);
                    more = told.law(i) != 0;
                }
            }
        }
        dueBest(what, x, best[n], best[n + 1], best[n + 2], Arrays.copyOf(best, n));
    }

    /** All LAWS, then the greatest sizes of SECOND and THIRD by them, then whether it is GOOD. */
    private static int[] rowOf(Told told) {
        CamMaker x = told.make();
        int n = told.segments();
        int[] row = new int[n + 3];
        for (int i = 0; i < n; i++) {
            row[i] = told.law(i);
        }
        row[n] = x.most(2, 0);
        row[n + 1] = x.most(3, 0);
        row[n + 2] = x.count(13);
        return row;
    }

    private static void limit() {
        about("promise 30");
        CamMaker x = Cams.sample();
        due("limit 0", 1036, x.limit(0));
        due("limit 1", 10, x.limit(1));
        due("limit 2", 236, x.limit(2));
        x.steepest(50);
        due("limit 1 by 50", 55, x.limit(1));
        x.base(55);
        due("bad 2 by 55", 0, x.bad(2, NONE));
        x.base(54);
        due("bad 2 by 54", 1, x.bad(2, NONE));
        for (int what : new int[] {-1, 3, MIN, MAX}) {
            due("limit " + what, NONE, x.limit(what));
        }
        x.base(10);
        int most = x.limit(0);
        for (int r = 1; r <= most; r++) {
            x.roller(r);
            due("UNDERCUT up to ROLLER " + most + " by " + r, 0, x.bad(0, NONE) + x.bad(1, NONE));
        }
        x.roller(most + 1);
        due("UNDERCUT by ROLLER " + (most + 1), 1, x.bad(0, NONE) + x.bad(1, NONE) > 0 ? 1 : 0);
        x.drop();
        for (int what = 0; what < 3; what++) {
            due("limit " + what + ", not WHOLE", NONE, x.limit(what));
        }
    }

    private static void rollerBySearch() {
        about("promise 30");
        int[][] all = {{5, 300, 0, 10}, {12, 999, 0, 10}, {12, 999, 2, 10}, {8, 500, 1, 40}, {20, 30, 3, 10},
            {3, 40, 3, 60}, {2, 200, 0, 200}, {7, 70, 2, 30}, {11, 999, 3, 300}, {1, 12, 0, 14}, {1, 60, 0, 300}};
        for (int[] a : all) {
            CamMaker x = Cams.cam(0, new int[] {a[0], a[1], a[2]}, new int[] {24 - a[0], 0, a[2]});
            x.base(a[3]);
            dueRoller("limit 0 of a rise of " + a[1] + " in " + a[0], x);
        }
        // Here ROLLERS from 1 on have UNDERCUT 1, from some greater one on none, and far greater ones have 2.
        CamMaker y = Cams.cam(0, new int[] {31, 0, 0}, new int[] {30, 0, 0}, new int[] {10, 10, 0}, new int[] {8, 26, 0},
                new int[] {17, 60, 0}, new int[] {6, 84, 0}, new int[] {14, 140, 0}, new int[] {3, 152, 0},
                new int[] {1, 0, 0});
        y.base(30);
        y.roller(47);
        due("no UNDERCUT by 47", 0, y.bad(0, NONE) + y.bad(1, NONE));
        dueRoller("limit 0 of a sharp peak", y);
    }

    private static void dueRoller(String what, CamMaker x) {
        int most = x.limit(0);
        Told told = new Told(x);
        int r = 0;
        boolean clear = true;
        while (clear) {
            r++;
            CamMaker y = told.make();
            y.roller(r);
            clear = y.bad(0, NONE) + y.bad(1, NONE) == 0;
        }
        due(what, r - 1, most);
    }

    private static void limitsAtTheirEnds() {
        about("promise 30");
        CamMaker t = Cams.cam(0, new int[] {59, 0, 0}, new int[] {1, 1, 0}, new int[] {1, 0, 0}, new int[] {59, 0, 0});
        t.base(10);
        due("limit 0, sharp at 120 STEPS", 0, t.limit(0));
        CamMaker s = Cams.earlyPeak(0, 20);
        s.base(1000);
        due("limit 0 by STEP 0", 428, s.limit(0));
        CamMaker r = Cams.peak(23, 1);
        due("shape 0 1", -2, r.shape(0, 1));
        r.steepest(0);
        due("limit 1 by STEP 0", 1901, r.limit(1));
        CamMaker x = Cams.sample();
        x.base(1447);
        due("limit 0, 1 has one", 0, x.limit(0));
        x.base(9999);
        due("limit 0, 1 has one", 0, x.limit(0));
        x.steepest(0);
        due("limit 1 by 0, before PRESS is below 1", 7901 - 2, x.limit(1));
        CamMaker y = Cams.peak(5, 999);
        y.steepest(0);
        due("limit 1, none", NONE, y.limit(1));
        y.roller(9999);
        due("limit 1, none", NONE, y.limit(1));
        y.spring(0, 999, 1);
        due("limit 2 by no LOAD", 706, y.limit(2));
        y.spring(0, 0, 1);
        due("limit 2 by no LOAD, no RATE", 0, y.limit(2));
        CamMaker w = Cams.cam(0, new int[] {6, 6, 0}, new int[] {12, 6, 0}, new int[] {6, 0, 0});
        w.spring(10, 0, 1);
        due("limit 2: SPEED SPEED is 1000 times LOAD", 100, w.limit(2));
        w.spring(9, 0, 1);
        due("limit 2", 94, w.limit(2));
        w.spring(99999, 0, 1);
        due("limit 2, beyond 9999", 9999, w.limit(2));
        // V of STEP 0 alone is -2: by STEEPEST 0 its FAR has to be 2001.
        CamMaker v = Cams.cam(1, new int[] {1, 0, 0}, new int[] {22, 0, 0}, new int[] {1, 1, 0});
        due("shape 1 1", -2, v.shape(1, 1));
        v.steepest(0);
        due("limit 1", 1901, v.limit(1));
        v.base(1901);
        due("limit 1 does not hang on BASE", 1901, v.limit(1));
        dueBad(v, 2);
        v.base(1900);
        dueBad(v, 2, 1);
        CamMaker u = Cams.peak(5, 30);
        u.steepest(5);
        u.roller(1);
        due("shape 6 1", -58, u.shape(6, 1));
        due("limit 1", 9667 - 1, u.limit(1));
        u.alter(1, 1, 999);
        u.steepest(180);
        due("shape 6 1", -1908, u.shape(6, 1));
        u.roller(10542 - 9999);
        due("limit 1, at the greatest BASE", 9999, u.limit(1));
        u.roller(10541 - 9999);
        due("limit 1, beyond the greatest BASE", NONE, u.limit(1));
        CamMaker z = new CamMaker();
        z.segment(24, 0, 0);
        z.steepest(0);
        due("all DWELL: limit 1", 10, z.limit(1));
        due("all DWELL: limit 2", 9999, z.limit(2));
        due("all DWELL: limit 0", 1048, z.limit(0));
        z.base(10);
        due("all DWELL: limit 0", 1438, z.limit(0));
    }

    private static void count() {
        about("promise 31");
        CamMaker x = Cams.sample();
        x.start(0);
        x.base(410);
        x.roller(110);
        x.spring(1100, 11, 12);
        x.speed(90);
        x.steepest(500);
        x.slack(2);
        x.mark(1, 2, 3);
        x.back();
        x.mark(2, 4, 0);
        x.mark(3, 6, 0);
        int[] all = {24, 4, 0, 410, 110, 1100, 11, 12, 90, 500, 2, 2, 1, 1, 13, 24};
        for (int what = 0; what < all.length; what++) {
            due("count " + what, all[what], x.count(what));
        }
        for (int what : new int[] {-1, 16, 17, 100, MIN, MAX}) {
            due("count " + what, NONE, x.count(what));
        }
        x.drop();
        due("count 12", 0, x.count(12));
        due("count 13", 0, x.count(13));
        due("count 15", 18, x.count(15));
        x.segment(6, 1, 0);
        due("count 12, another last END", 0, x.count(12));
        due("count 15", 24, x.count(15));
    }

    private static void good() {
        about("promise 31");
        CamMaker x = Cams.sample();
        due("GOOD", 1, x.count(13));
        x.base(10);
        due("GOOD with UNDERCUT 1", 0, x.count(13));
        x.base(2000);
        due("GOOD with UNDERCUT 2", 0, x.count(13));
        x.base(400);
        x.steepest(14);
        due("GOOD with one STEEP", 0, x.count(13));
        x.steepest(15);
        due("GOOD", 1, x.count(13));
        x.speed(237);
        due("GOOD with one that FLOATS", 0, x.count(13));
        x.speed(236);
        due("GOOD", 1, x.count(13));
        x.mark(6, 12, 0);
        due("GOOD", 1, x.count(13));
        x.mark(6, 11, 0);
        due("GOOD with a MARK not MET", 0, x.count(13));
        x.unmark(1);
        x.mark(6, 11, 1);
        due("GOOD", 1, x.count(13));
    }
}
