import java.util.NoSuchElementException;

/** What the tests ask with: each answer that is not as due is told, and end() fails if there was one. */
abstract class Checks {
    static final int MIN = Integer.MIN_VALUE;
    static final int MAX = Integer.MAX_VALUE;
    static final int NONE = -1;

    private static String about = "";
    private static int wrong = 0;
    private static int asked = 0;

    interface Call {
        long on();
    }

    /** The words of the document that the answers asked from here on are due by. */
    static void about(String words) {
        about = words;
    }

    static void due(String call, long want, long got) {
        tell(want == got, call + " answered " + got + ", due is " + want);
    }

    static void due(String call, boolean want, boolean got) {
        due(call, want ? 1 : 0, got ? 1 : 0);
    }

    static void due(String call, String want, String got) {
        tell(want.equals(got), call + " shows " + got + ", due is " + want);
    }

    static void dueThrow(String call, Call c) {
        try {
            tell(false, call + " answered " + c.on() + ", due is an exception");
        } catch (NoSuchElementException e) {
            tell(e.getClass() == NoSuchElementException.class, call + " threw " + e);
        }
    }

    private static void tell(boolean right, String words) {
        asked++;
        if (!right) {
            wrong++;
            System.out.println(about + ": " + words);
        }
    }

    static void end() {
        System.out.println(asked + " answers asked, " + wrong + " are not as due");
        if (wrong != 0 || asked == 0) {
            System.exit(1);
        }
    }
}
