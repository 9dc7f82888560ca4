/** Cams that several tests are made with. */
final class Cams {
    private Cams() {
    }

    /** LIFT 0 2 4 6 8 10, six times 12, 12 10 8 6 4 2, six times 0. */
    static CamMaker sample() {
        CamMaker x = new CamMaker();
        x.segment(6, 12, 0);
        x.segment(6, 12, 0);
        x.segment(6, 0, 0);
        x.segment(6, 0, 3);
        return x;
    }

    /** As many STEPS as the SEGMENTS have together; each of these is told as for segment(). */
    static CamMaker cam(int start, int[]... segments) {
        CamMaker x = new CamMaker();
        int steps = 0;
        for (int[] segment : segments) {
            steps += segment[0];
        }
        x.steps(steps);
        x.start(start);
        for (int[] segment : segments) {
            x.segment(segment[0], segment[1], segment[2]);
        }
        return x;
    }

    /** LIFT 0 at all 24 STEPS but the one of that number, which has the LIFT told. */
    static CamMaker peak(int step, int lift) {
        return around(24, step, 0, lift, 0);
    }

    /** At the STEP of that number and the ones ahead of it and behind it these three LIFTS; at all others the first. */
    static CamMaker around(int steps, int step, int last, int here, int next) {
        CamMaker x = new CamMaker();
        x.steps(steps);
        x.start(last);
        dwell(x, step - 1, last);
        x.segment(1, here, 0);
        x.segment(1, next, 0);
        if (next != last) {
            x.segment(1, last, 0);
        }
        dwell(x, steps - x.count(15), last);
        return x;
    }

    /** The LIFTS told one behind another, from STEP 0 on; that of STEP 0 at all others, too. */
    static CamMaker lifts(int steps, int... lifts) {
        CamMaker x = new CamMaker();
        x.steps(steps);
        x.start(lifts[0]);
        for (int i = 1; i < lifts.length; i++) {
            x.segment(1, lifts[i], 0);
        }
        x.segment(1, lifts[0], 0);
        dwell(x, steps - lifts.length, lifts[0]);
        return x;
    }

    /** A peak of one STEP at STEP 0, or at 1. */
    static CamMaker earlyPeak(int step, int lift) {
        return step == 0 ? cam(lift, new int[] {1, 0, 0}, new int[] {22, 0, 0}, new int[] {1, lift, 0})
                : cam(0, new int[] {1, lift, 0}, new int[] {1, 0, 0}, new int[] {22, 0, 0});
    }

    private static void dwell(CamMaker x, int steps, int lift) {
        for (int left = steps; left > 0; left -= 60) {
            x.segment(Math.min(left, 60), lift, 0);
        }
    }
}
