import java.util.ArrayList;
import java.util.List;

/**
 * What was told of a cam, read from it once, so that cams like it can be made. An object answers as promised for 512
 * calls only: who has more to ask makes more of them.
 */
final class Told {
    private final int[] settings = new int[11];
    private final List<int[]> segments = new ArrayList<>();
    private final List<int[]> marks = new ArrayList<>();

    Told(CamMaker x) {
        for (int i = 0; i < settings.length; i++) {
            settings[i] = x.count(i);
        }
        for (int i = 0; i < x.count(1); i++) {
            segments.add(new int[] {x.of(i, 0), x.of(i, 1), x.of(i, 2), x.of(i, 5)});
        }
        for (int i = 0; i < x.count(11); i++) {
            marks.add(new int[] {x.marked(i, 0), x.marked(i, 1), x.marked(i, 2)});
        }
    }

    int segments() {
        return segments.size();
    }

    boolean dwells(int segment) {
        return segments.get(segment)[3] == 1;
    }

    int law(int segment) {
        return segments.get(segment)[2];
    }

    void setLaw(int segment, int law) {
        segments.get(segment)[2] = law;
    }

    CamMaker make() {
        CamMaker x = new CamMaker();
        x.steps(settings[0]);
        x.start(settings[2]);
        x.base(settings[3]);
        x.roller(settings[4]);
        x.spring(settings[5], settings[6], settings[7]);
        x.speed(settings[8]);
        x.steepest(settings[9]);
        x.slack(settings[10]);
        for (int[] segment : segments) {
            x.segment(segment[0], segment[1], segment[2]);
        }
        for (int[] mark : marks) {
            x.mark(mark[0], mark[1], mark[2]);
        }
        return x;
    }
}
