import java.util.NoSuchElementException;
import java.util.Random;

/** Long runs of calls, the same ones each time, on the class and on PlainCam: all answers must be the same. */
public final class AgainstPlainCamTest {
    private static final long THROWN = Long.MIN_VALUE;
    // An object answers as promised for so many calls; a cam is made WHOLE by steps(), start() and 12 SEGMENTS at most.
    private static final int MOST_CALLS = 512;
    private static final int MOST_TO_MAKE_WHOLE = 14;
    private static final int[] NARROW = {0, 0, 10, 400, 100, 1000, 10, 10, 100, 577, 1};
    private static final int[] HIGH = {120, 12, 999, 9999, 9999, 99999, 999, 999, 9999, 9999, 99};
    private static final int[] EDGES = {Integer.MIN_VALUE, Integer.MIN_VALUE + 1, -61, -2, -1, 0, 1, 2, 3, 4, 5, 8, 9,
        10, 11, 12, 13, 14, 15, 16, 23, 24, 25, 60, 61, 99, 100, 119, 120, 121, 999, 1000, 9999, 10000, 99999, 100000,
        Integer.MAX_VALUE - 1, Integer.MAX_VALUE, 0x55555555, 0x55555556, -0x55555555};

    private final Random random;
    private final String run;
    private CamMaker cam;
    private PlainCam plain;
    private int lifts;
    private int calls;
    private int wrong;

    private AgainstPlainCamTest(int run) {
        this.run = "run " + run;
        random = new Random(run);
    }

    public static void main(String[] args) {
        int first = args.length > 0 ? Integer.parseInt(args[0]) : 0;
        int runs = args.length > 1 ? Integer.parseInt(args[1]) : 1000;
        int wrong = 0;
        long calls = 0;
        for (int run = first; run < first + runs; run++) {
            AgainstPlainCamTest test = new AgainstPlainCamTest(run);
            test.go();
            wrong += test.wrong;
            calls += test.calls;
        }
        for (int run = first; run < first + runs / 50; run++) {
            AgainstPlainCamTest test = new AgainstPlainCamTest(-1 - run);
            test.compareWideBest();
            wrong += test.wrong;
            calls += test.calls;
        }
        System.out.println(calls + " calls compared, " + wrong + " answered otherwise");
        if (wrong != 0) {
            System.exit(1);
        }
    }

    private int below(int n) {
        return random.nextInt(n);
    }

    private int edge() {
        return EDGES[below(EDGES.length)];
    }

    private void go() {
        cam = new CamMaker();
        plain = new PlainCam();
        calls = 0;
        int manner = below(10);
        lifts = manner < 4 ? 40 : manner < 7 ? 200 : 1000;
        while (calls <= MOST_CALLS - MOST_TO_MAKE_WHOLE && wrong == 0) {
            int kind = below(20);
            if (kind == 0) {
                makeWhole();
            } else if (kind < 6) {
                tell();
            } else if (kind == 6) {
                same("edge", edgeCall());
            } else {
                ask();
            }
        }
    }

    /** BEST of a cam with five or six SEGMENTS that are no DWELL, all of it by one search of the plain one. */
    private void compareWideBest() {
        lifts = run.hashCode() % 2 == 0 ? 30 : 300;
        int moving = 0;
        while (moving < 5 || moving > 6) {
            cam = new CamMaker();
            plain = new PlainCam();
            makeWhole();
            moving = countMoving();
        }
        set(9, below(1000));
        set(8, below(200));
        for (int i = below(4); i > 0; i--) {
            int step = below(24);
            mark(step, Math.min(999, plain.lift(step) + below(3)), below(10));
        }
        int[] best = plain.allBest();
        int n = plain.count(1);
        for (int what = 0; what < n + 3; what++) {
            int asked = what < n ? what : 12 + what - n;
            same("best " + asked, of(cam.best(asked), best[what]));
        }
    }

    private int countMoving() {
        int moving = 0;
        for (int i = 0; i < plain.count(1); i++) {
            moving += 1 - plain.of(i, 5);
        }
        return moving;
    }

    private void same(String call, long[] answers) {
        calls++;
        if (answers[0] != answers[1]) {
            wrong++;
            System.out.println(run + ", call " + calls + ": " + call + " answered " + told(answers[0])
                    + ", the plain one " + told(answers[1]));
        }
    }

    private static String told(long answer) {
        return answer == THROWN ? "NoSuchElementException" : Long.toString(answer);
    }

    private static long[] of(long a, long b) {
        return new long[] {a, b};
    }

    private static long[] of(boolean a, boolean b) {
        return of(a ? 1 : 0, b ? 1 : 0);
    }

    private void makeWhole() {
        int steps = below(3) == 0 ? 24 + below(97) : 24 + below(17);
        same("steps " + steps, of(cam.steps(steps), plain.steps(steps)));
        int start = below(4) == 0 ? below(lifts) : 0;
        set(2, start);
        int most = steps > 60 ? 6 : 4;
        int count = Math.max((steps + 59) / 60, 1 + below(below(12) == 0 ? 12 : most + 2));
        int left = steps;
        int at = start;
        for (int i = 0; i < count; i++) {
            int others = count - i - 1;
            int least = Math.max(1, left - 60 * others);
            int longest = Math.min(60, left - others);
            int n = others == 0 ? left : below(4) == 0 ? least : least + below(longest - least + 1);
            at = others == 0 ? start : below(3) == 0 ? at : below(lifts);
            segment(n, at, below(4));
            left -= n;
        }
    }

    private void segment(int n, int end, int law) {
        same("segment " + n + " " + end + " " + law, of(cam.segment(n, end, law), plain.segment(n, end, law)));
    }

    private void set(int setting, int v) {
        same("set " + setting + " to " + v, of(put(setting, v), plain.set(setting, v)));
    }

    private int put(int setting, int v) {
        switch (setting) {
            case 2:
                return cam.start(v);
            case 3:
                return cam.base(v);
            case 4:
                return cam.roller(v);
            case 8:
                return cam.speed(v);
            case 9:
                return cam.steepest(v);
            default:
                return cam.slack(v);
        }
    }

    private int mostlyNear(int setting) {
        return below(2) == 0 ? below(HIGH[setting] + 1) : below(2 * NARROW[setting] + 1);
    }

    private void tell() {
        int segment = below(13);
        int law = below(4);
        int end = below(lifts);
        switch (below(16)) {
            case 0:
                segment(1 + below(10), end, law);
                break;
            case 1:
            case 2:
            case 3:
                same("alter law", of(cam.alter(segment, 2, law), plain.alter(segment, 2, law)));
                break;
            case 4:
                same("alter end", of(cam.alter(segment, 1, end), plain.alter(segment, 1, end)));
                break;
            case 5:
                same("drop", of(cam.drop(), plain.drop()));
                break;
            case 6:
                set(3, mostlyNear(3));
                break;
            case 7:
                set(4, mostlyNear(4));
                break;
            case 8:
                spring(mostlyNear(5), mostlyNear(6), mostlyNear(7));
                break;
            case 9:
                set(8, mostlyNear(8));
                break;
            case 10:
                set(9, mostlyNear(9));
                break;
            case 11:
                set(10, mostlyNear(10));
                break;
            case 12:
                mark(below(60), end, below(100));
                break;
            case 13:
                same("unmark", of(cam.unmark(segment), plain.unmark(segment)));
                break;
            default:
                same("back", of(cam.back(), plain.back()));
                break;
        }
    }

    private void spring(int load, int rate, int mass) {
        same("spring", of(cam.spring(load, rate, mass), plain.spring(load, rate, mass)));
    }

    private void mark(int step, int lift, int within) {
        same("mark", of(cam.mark(step, lift, within), plain.mark(step, lift, within)));
    }

    private void ask() {
        int step = below(123) - 1;
        int a = below(17) - 1;
        int segment = below(14) - 1;
        int number = below(12) - 1;
        int few = below(6) - 1;
        switch (below(16)) {
            case 0:
                same("of " + segment + " " + few, of(cam.of(segment, few), plain.of(segment, few)));
                break;
            case 1:
                same("lift " + step, of(cam.lift(step), plain.lift(step)));
                break;
            case 2:
                same("diff " + step + " " + few, diff(step, few));
                break;
            case 3:
                same("most " + few + " " + a, of(cam.most(few, a % 4), plain.most(few, a % 4)));
                break;
            case 4:
                same("border " + segment, of(cam.border(segment), plain.border(segment)));
                break;
            case 5:
                same("shape " + step + " " + few, shape(step, few));
                break;
            case 6:
                same("undercut " + step, of(cam.undercut(step), plain.undercut(step)));
                break;
            case 7:
                same("press " + step, of(cam.press(step), plain.press(step)));
                break;
            case 8:
                same("force " + step, force(step));
                break;
            case 9:
                same("bad " + few + " " + number, of(cam.bad(few, number), plain.bad(few, number)));
                break;
            case 10:
                same("top " + a, of(cam.top(a % 7), plain.top(a % 7)));
                break;
            case 11:
                same("met", of(cam.met(), plain.met()));
                break;
            case 12:
                same("marked " + number + " " + few, of(cam.marked(number, few), plain.marked(number, few)));
                break;
            case 13:
                askBest(a);
                break;
            case 14:
                same("limit " + few, of(cam.limit(few), plain.limit(few)));
                break;
            default:
                same("count " + a, of(cam.count(a), plain.count(a)));
                break;
        }
    }

    /** The plain one tries all ways, so the largest cams are asked but seldom. */
    private void askBest(int what) {
        int moving = countMoving();
        if (moving <= 3 || moving == 4 && below(4) == 0 || moving > 4 && below(100) == 0) {
            same("best " + what, of(cam.best(what), plain.best(what)));
        }
    }

    private long[] diff(int step, int which) {
        long a;
        long b;
        try {
            a = cam.diff(step, which);
        } catch (NoSuchElementException e) {
            a = THROWN;
        }
        try {
            b = plain.diff(step, which);
        } catch (NoSuchElementException e) {
            b = THROWN;
        }
        return of(a, b);
    }

    private long[] shape(int step, int what) {
        long a;
        long b;
        try {
            a = cam.shape(step, what);
        } catch (NoSuchElementException e) {
            a = THROWN;
        }
        try {
            b = plain.shape(step, what);
        } catch (NoSuchElementException e) {
            b = THROWN;
        }
        return of(a, b);
    }

    private long[] force(int step) {
        long a;
        long b;
        try {
            a = cam.force(step);
        } catch (NoSuchElementException e) {
            a = THROWN;
        }
        try {
            b = plain.force(step);
        } catch (NoSuchElementException e) {
            b = THROWN;
        }
        return of(a, b);
    }

    /** A call with numbers at the ends of what is allowed, of what numbers there are, and between. */
    private long[] edgeCall() {
        int a = edge();
        int b = edge();
        int c = edge();
        int[] settings = {2, 3, 4, 8, 9, 10};
        int setting = settings[below(settings.length)];
        switch (below(22)) {
            case 0:
                return below(6) == 0 ? of(cam.steps(a), plain.steps(a)) : of(0, 0);
            case 1:
                return of(cam.segment(a, b, c), plain.segment(a, b, c));
            case 2:
                return of(cam.alter(a, b, c), plain.alter(a, b, c));
            case 3:
                return of(put(setting, a), plain.set(setting, a));
            case 4:
                return of(cam.spring(a, b, c), plain.spring(a, b, c));
            case 5:
                return of(cam.mark(a, b, c), plain.mark(a, b, c));
            case 6:
                return of(cam.unmark(a), plain.unmark(a));
            case 7:
                return of(cam.of(a, b), plain.of(a, b));
            case 8:
                return of(cam.lift(a), plain.lift(a));
            case 9:
                return diff(a, below(4));
            case 10:
                return diff(below(24), b);
            case 11:
                return of(cam.most(a, b), plain.most(a, b));
            case 12:
                return of(cam.border(a), plain.border(a));
            case 13:
                return shape(a, below(4));
            case 14:
                return shape(below(24), b);
            case 15:
                return of(cam.undercut(a), plain.undercut(a));
            case 16:
                return of(cam.press(a), plain.press(a));
            case 17:
                return force(a);
            case 18:
                return of(cam.bad(a, b), plain.bad(a, b));
            case 19:
                return of(cam.top(a), plain.top(a));
            case 20:
                return of(cam.marked(a, b), plain.marked(a, b));
            default:
                return a >= 0 && a < 15 ? of(cam.count(a), plain.count(a)) : of(cam.best(a), plain.best(a));
        }
    }
}
