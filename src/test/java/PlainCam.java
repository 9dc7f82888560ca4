import java.math.BigInteger;
import java.util.ArrayDeque;
import java.util.ArrayList;
import java.util.Arrays;
import java.util.Deque;
import java.util.List;
import java.util.NoSuchElementException;
import java.util.function.IntPredicate;
import java.util.function.IntToLongFunction;

/** The document told again as plainly as can be: every answer from the words alone, all ways and numbers tried. */
final class PlainCam {
    private static final int NONE = -1;
    private static final int[] LOW = {24, 0, 0, 10, 1, 0, 0, 1, 0, 0, 0};
    private static final int[] HIGH = {120, 12, 999, 9999, 9999, 99999, 999, 999, 9999, 9999, 99};

    private int[] told = {24, 0, 0, 400, 100, 1000, 10, 10, 100, 577, 1};
    private List<int[]> segments = new ArrayList<>();
    private List<int[]> marks = new ArrayList<>();
    private final Deque<Object[]> done = new ArrayDeque<>();
    // The LIFTS last found; null when something was told since.
    private long[] lifts;

    private static List<int[]> copy(List<int[]> rows) {
        List<int[]> copies = new ArrayList<>();
        for (int[] row : rows) {
            copies.add(row.clone());
        }
        return copies;
    }

    private void keep() {
        lifts = null;
        done.push(new Object[] {told.clone(), copy(segments), copy(marks)});
        if (done.size() > 20) {
            done.removeLast();
        }
    }

    private static boolean in(int v, int low, int high) {
        return v >= low && v <= high;
    }

    int steps(int n) {
        if (!in(n, 24, 120)) {
            return NONE;
        }
        int were = segments.size();
        told[0] = n;
        lifts = null;
        segments.clear();
        marks.clear();
        done.clear();
        return were;
    }

    int segment(int steps, int end, int law) {
        if (!in(steps, 1, 60) || !in(end, 0, 999) || !in(law, 0, 3) || segments.size() == 12) {
            return NONE;
        }
        keep();
        segments.add(new int[] {steps, end, law});
        return segments.size() - 1;
    }

    int alter(int segment, int what, int v) {
        boolean due = what == 0 ? in(v, 1, 60) : what == 1 ? in(v, 0, 999) : what == 2 && in(v, 0, 3);
        if (!in(segment, 0, segments.size() - 1) || !due) {
            return NONE;
        }
        keep();
        int was = segments.get(segment)[what];
        segments.get(segment)[what] = v;
        return was;
    }

    int drop() {
        if (segments.isEmpty()) {
            return NONE;
        }
        keep();
        segments.remove(segments.size() - 1);
        return segments.size();
    }

    int set(int setting, int v) {
        if (!in(v, LOW[setting], HIGH[setting])) {
            return NONE;
        }
        keep();
        int was = told[setting];
        told[setting] = v;
        return was;
    }

    boolean spring(int load, int rate, int mass) {
        if (!in(load, 0, 99999) || !in(rate, 0, 999) || !in(mass, 1, 999)) {
            return false;
        }
        keep();
        told[5] = load;
        told[6] = rate;
        told[7] = mass;
        return true;
    }

    int mark(int step, int lift, int within) {
        if (!in(step, 0, told[0] - 1) || !in(lift, 0, 999) || !in(within, 0, 99) || marks.size() == 8) {
            return NONE;
        }
        keep();
        marks.add(new int[] {step, lift, within});
        return marks.size() - 1;
    }

    boolean unmark(int mark) {
        if (!in(mark, 0, marks.size() - 1)) {
            return false;
        }
        keep();
        marks.remove(mark);
        return true;
    }

    @SuppressWarnings("unchecked")
    boolean back() {
        if (done.isEmpty()) {
            return false;
        }
        lifts = null;
        Object[] was = done.pop();
        told = (int[]) was[0];
        segments = (List<int[]>) was[1];
        marks = (List<int[]>) was[2];
        return true;
    }

    private int from(int segment) {
        return segment == 0 ? told[2] : segments.get(segment - 1)[1];
    }

    private int begin(int segment) {
        int sum = 0;
        for (int i = 0; i < segment; i++) {
            sum += segments.get(i)[0];
        }
        return sum;
    }

    private boolean dwell(int segment) {
        return from(segment) == segments.get(segment)[1];
    }

    private boolean whole() {
        return !segments.isEmpty() && begin(segments.size()) == told[0]
                && segments.get(segments.size() - 1)[1] == told[2];
    }

    private boolean known(int step) {
        return whole() && in(step, 0, told[0] - 1);
    }

    int of(int segment, int what) {
        if (!in(segment, 0, segments.size() - 1) || !in(what, 0, 5)) {
            return NONE;
        }
        return what < 3 ? segments.get(segment)[what] : what == 3 ? from(segment) : what == 4 ? begin(segment)
                : dwell(segment) ? 1 : 0;
    }

    private static BigInteger big(long n) {
        return BigInteger.valueOf(n);
    }

    private static BigInteger floor(BigInteger n, BigInteger by) {
        BigInteger[] both = n.divideAndRemainder(by);
        return both[1].signum() < 0 ? both[0].subtract(BigInteger.ONE) : both[0];
    }

    private long L(int step) {
        if (lifts == null) {
            lifts = new long[told[0]];
            for (int i = 0; i < told[0]; i++) {
                lifts[i] = liftOf(i);
            }
        }
        return lifts[Math.floorMod(step, told[0])];
    }

    private long liftOf(int i) {
        int s = 0;
        while (i >= begin(s + 1)) {
            s++;
        }
        BigInteger k = big(i - begin(s));
        BigInteger n = big(segments.get(s)[0]);
        BigInteger up;
        BigInteger down;
        switch (segments.get(s)[2]) {
            case 0:
                up = k;
                down = n;
                break;
            case 1:
                down = n.pow(2);
                up = k.add(k).compareTo(n) <= 0 ? big(2).multiply(k.pow(2))
                        : down.subtract(big(2).multiply(n.subtract(k).pow(2)));
                break;
            case 2:
                down = n.pow(5);
                up = k.pow(3).multiply(big(10).multiply(n.pow(2)).subtract(big(15).multiply(k).multiply(n))
                        .add(big(6).multiply(k.pow(2))));
                break;
            default:
                down = n.pow(7);
                up = k.pow(4).multiply(big(35).multiply(n.pow(3)).subtract(big(84).multiply(k).multiply(n.pow(2)))
                        .add(big(70).multiply(k.pow(2)).multiply(n)).subtract(big(20).multiply(k.pow(3))));
                break;
        }
        // The exact value is value / down; the nearest whole of it, of two the greater one.
        BigInteger value = big(from(s)).multiply(down).add(big(segments.get(s)[1] - from(s)).multiply(up));
        BigInteger low = floor(value, down);
        BigInteger over = value.subtract(low.multiply(down));
        return low.longValueExact() + (over.add(over).compareTo(down) >= 0 ? 1 : 0);
    }

    int lift(int step) {
        return known(step) ? (int) L(step) : NONE;
    }

    private long D(int step, int which) {
        if (which == 1) {
            return L(step + 1) - L(step);
        }
        return which == 2 ? D(step, 1) - D(step - 1, 1) : D(step + 1, 2) - D(step, 2);
    }

    int diff(int step, int which) {
        if (!known(step) || !in(which, 1, 3)) {
            throw new NoSuchElementException();
        }
        return (int) D(step, which);
    }

    int most(int which, int what) {
        if (!whole() || !in(which, 1, 3) || !in(what, 0, 2)) {
            return NONE;
        }
        int greatest = (int) greatest(i -> Math.abs(D(i, which)));
        return what == 0 ? greatest : what == 1 ? such(i -> Math.abs(D(i, which)) == greatest, 0)
                : such(i -> Math.abs(D(i, which)) == greatest, NONE);
    }

    private long greatest(IntToLongFunction f) {
        long greatest = Long.MIN_VALUE;
        for (int i = 0; i < told[0]; i++) {
            greatest = Math.max(greatest, f.applyAsLong(i));
        }
        return greatest;
    }

    /** The number-th STEP that is such, or how many there are (number NONE). */
    private int such(IntPredicate is, int number) {
        List<Integer> all = new ArrayList<>();
        for (int i = 0; i < told[0]; i++) {
            if (is.test(i)) {
                all.add(i);
            }
        }
        return number == NONE ? all.size() : number < all.size() ? all.get(number) : NONE;
    }

    int border(int segment) {
        if (!whole() || !in(segment, 0, segments.size() - 1)) {
            return NONE;
        }
        int step = begin(segment);
        for (int k = 1; k <= 3; k++) {
            if (Math.abs(D(step, k) - D(step - 1, k)) > told[10]) {
                return k - 1;
            }
        }
        return 3;
    }

    private long far(int step) {
        return told[3] + told[4] + L(step);
    }

    private long v(int step) {
        return floor(big((L(step + 1) - L(step - 1)) * 113 * told[0]), big(1420)).longValueExact();
    }

    private long a(int step) {
        return floor(big(D(step, 2)).multiply(big(12769L * told[0] * told[0])), big(504100)).longValueExact();
    }

    private long bend(int step) {
        long far = far(step);
        return far * far + 2 * v(step) * v(step) - far * a(step);
    }

    long shape(int step, int what) {
        if (!known(step) || !in(what, 0, 3)) {
            throw new NoSuchElementException();
        }
        return what == 0 ? far(step) : what == 1 ? v(step) : what == 2 ? a(step) : bend(step);
    }

    private int cut(int step) {
        return cutOf(far(step), v(step), bend(step), told[4]);
    }

    private static int cutOf(long far, long v, long bend, long roller) {
        if (bend <= 0) {
            return 0;
        }
        try {
            long sum = Math.addExact(Math.multiplyExact(far, far), Math.multiplyExact(v, v));
            long cube = Math.multiplyExact(Math.multiplyExact(sum, sum), sum);
            long other = Math.multiplyExact(Math.multiplyExact(roller, roller), Math.multiplyExact(bend, bend));
            return cube < other ? 1 : 0;
        } catch (ArithmeticException e) {
            return 2;
        }
    }

    int undercut(int step) {
        return known(step) ? cut(step) : NONE;
    }

    private long pressing(int step) {
        return 1000 * Math.abs(v(step)) / far(step);
    }

    int press(int step) {
        return known(step) ? (int) pressing(step) : NONE;
    }

    private long pushing(int step) {
        BigInteger pull = big((long) told[7] * told[8] * told[8]).multiply(big(D(step, 2)));
        return told[5] + told[6] * L(step) + floor(pull, big(1000)).longValueExact();
    }

    long force(int step) {
        if (!known(step)) {
            throw new NoSuchElementException();
        }
        return pushing(step);
    }

    private boolean isBad(int what, int i) {
        return what < 2 ? cut(i) == what + 1 : what == 2 ? pressing(i) > told[9] : pushing(i) < 0;
    }

    int bad(int what, int i) {
        return !whole() || !in(what, 0, 3) || i < NONE ? NONE : such(step -> isBad(what, step), i);
    }

    int top(int what) {
        if (!whole() || !in(what, 0, 5)) {
            return NONE;
        }
        long press = greatest(this::pressing);
        long force = -greatest(i -> -pushing(i));
        long lift = greatest(this::L);
        long sum = 0;
        for (int i = 0; i < told[0]; i++) {
            sum += L(i);
        }
        switch (what) {
            case 0:
                return (int) press;
            case 1:
                return such(i -> pressing(i) == press, 0);
            case 2:
                return such(i -> pushing(i) == force, 0);
            case 3:
                return (int) lift;
            case 4:
                return such(i -> L(i) == lift, 0);
            default:
                return (int) sum;
        }
    }

    private int miss(int mark) {
        return (int) Math.abs(L(marks.get(mark)[0]) - marks.get(mark)[1]);
    }

    int met() {
        if (!whole()) {
            return NONE;
        }
        int bits = 0;
        for (int i = 0; i < marks.size(); i++) {
            bits += miss(i) <= marks.get(i)[2] ? (int) Math.pow(2, i) : 0;
        }
        return bits;
    }

    int marked(int mark, int what) {
        if (!in(mark, 0, marks.size() - 1) || !in(what, 0, 3)) {
            return NONE;
        }
        return what < 3 ? marks.get(mark)[what] : whole() ? miss(mark) : NONE;
    }

    private boolean good() {
        for (int i = 0; i < told[0]; i++) {
            if (cut(i) != 0 || isBad(2, i) || isBad(3, i)) {
                return false;
            }
        }
        return met() == (1 << marks.size()) - 1;
    }

    /** BEST laws as a row, then the greatest sizes of SECOND and THIRD, then whether it is GOOD. */
    int[] allBest() {
        int n = segments.size();
        int[] best = null;
        int[] kept = new int[n];
        for (int i = 0; i < n; i++) {
            kept[i] = segments.get(i)[2];
            segments.get(i)[2] = dwell(i) ? kept[i] : 0;
        }
        boolean more = true;
        while (more) {
            lifts = null;
            int[] found = new int[n + 3];
            for (int i = 0; i < n; i++) {
                found[i] = segments.get(i)[2];
            }
            found[n] = (int) greatest(i -> Math.abs(D(i, 2)));
            found[n + 1] = (int) greatest(i -> Math.abs(D(i, 3)));
            found[n + 2] = good() ? 1 : 0;
            if (best == null || found[n + 2] > best[n + 2] || found[n + 2] == best[n + 2]
                    && (found[n] < best[n] || found[n] == best[n] && found[n + 1] < best[n + 1])) {
                best = found;
            }
            more = false;
            for (int i = n - 1; i >= 0 && !more; i--) {
                if (!dwell(i)) {
                    segments.get(i)[2] = (segments.get(i)[2] + 1) % 4;
                    more = segments.get(i)[2] != 0;
                }
            }
        }
        for (int i = 0; i < n; i++) {
            segments.get(i)[2] = kept[i];
        }
        lifts = null;
        return best;
    }

    int best(int what) {
        int moving = 0;
        for (int i = 0; i < segments.size(); i++) {
            moving += dwell(i) ? 0 : 1;
        }
        int n = segments.size();
        if (!whole() || moving > 6 || !in(what, 0, 14) || what < 12 && what >= n) {
            return NONE;
        }
        int[] best = allBest();
        return what < 12 ? best[what] : best[n + what - 12];
    }

    int limit(int what) {
        if (!whole() || !in(what, 0, 2)) {
            return NONE;
        }
        return what == 0 ? greatestRoller() : what == 1 ? leastBase() : greatestSpeed();
    }

    private long[] each(IntToLongFunction f) {
        long[] all = new long[told[0]];
        Arrays.setAll(all, f);
        return all;
    }

    private int greatestRoller() {
        long[] vs = each(this::v);
        long[] as = each(this::a);
        for (int r = 1; r <= 9999; r++) {
            for (int i = 0; i < told[0]; i++) {
                long far = told[3] + r + L(i);
                if (cutOf(far, vs[i], far * far + 2 * vs[i] * vs[i] - far * as[i], r) != 0) {
                    return r - 1;
                }
            }
        }
        return 9999;
    }

    private int leastBase() {
        long[] vs = each(this::v);
        for (int b = 10; b <= 9999; b++) {
            boolean steep = false;
            for (int i = 0; i < told[0]; i++) {
                steep |= 1000 * Math.abs(vs[i]) / (b + told[4] + L(i)) > told[9];
            }
            if (!steep) {
                return b;
            }
        }
        return NONE;
    }

    private int greatestSpeed() {
        long[] seconds = each(i -> D(i, 2));
        for (long s = 9999; s >= 0; s--) {
            boolean floats = false;
            for (int i = 0; i < told[0]; i++) {
                floats |= told[5] + told[6] * L(i) + Math.floorDiv(told[7] * s * s * seconds[i], 1000L) < 0;
            }
            if (!floats) {
                return (int) s;
            }
        }
        return NONE;
    }

    int count(int what) {
        if (!in(what, 0, 15)) {
            return NONE;
        }
        switch (what) {
            case 1:
                return segments.size();
            case 11:
                return marks.size();
            case 12:
                return whole() ? 1 : 0;
            case 13:
                return whole() && good() ? 1 : 0;
            case 14:
                return done.size();
            case 15:
                return begin(segments.size());
            default:
                return told[what];
        }
    }
}
