import java.util.NoSuchElementException;

/** What the tests ask with: each answer that is not as due is told, and end() fails if there was one. */
abstract class Checks {
    static final int MIN = Integer.MIN_VALUE;
    static final int MAX = Integer.MAX_VALUE;
    static final int NONE = -1;

    private static String about = "";
    private static int wrong = 0;
    private static int asked = 0;

    interface Call {
        long on();
    }

    /** The words of the document that the answers asked from here on are due by. */
    static void about(String words) {
        about = words;
    }

    static void due(String call, long want, long got) {
        tell(want == got, call + " answered " + got + ", due is " + want);
    }

    static void due(String call, boolean want, boolean got) {
        due(call, want ? 1 : 0, got ? 1 : 0);
    }

    static void due(String call, String want, String got) {
        tell(want.equals(got), call + " shows " + got + ", due is " + want);
    }

    static void dueThrow(String call, Call c) {
        try {
            tell(false, call + " answered " + c.on() + ", due is an exception");
        } catch (NoSuchElementException e) {
            tell(e.getClass() == NoSuchElementException.class, call + " threw " + e);
        }
    }

    private static void tell(boolean right, String words) {
        asked++;
        if (!right) {
            wrong++;
            System.out.println(about + ": " + words);
        }
    }

    /** LIFTS from a STEP on. */
    static void dueLifts(String what, CamMaker x, int from, int... lifts) {
        for (int i = 0; i < lifts.length; i++) {
            due(what + ", lift " + (from + i), lifts[i], x.lift(from + i));
        }
    }

    /** BEST laws, and what goes with them. */
    static void dueBest(String what, CamMaker x, int second, int third, int good, int... laws) {
        for (int i = 0; i < 12; i++) {
            due(what + ": best " + i, i < laws.length ? laws[i] : NONE, x.best(i));
        }
        due(what + ": best 12", second, x.best(12));
        due(what + ": best 13", third, x.best(13));
        due(what + ": best 14", good, x.best(14));
    }

    /** All the bad STEPS of a kind, how many there are, and that there is none behind them. */
    static void dueBad(CamMaker x, int what, int... steps) {
        due("bad " + what + " NONE", steps.length, x.bad(what, NONE));
        for (int i = 0; i < steps.length; i++) {
            due("bad " + what + " " + i, steps[i], x.bad(what, i));
        }
        due("bad " + what + " " + steps.length, NONE, x.bad(what, steps.length));
    }

    static void end() {
        System.out.println(asked + " answers asked, " + wrong + " are not as due");
        if (wrong != 0 || asked == 0) {
            System.exit(1);
        }
    }
}
