/** Compares answers with what is due, and ends a test with exit code 1 if one was wrong. */
public final class Checks {
    /** A call of the face whose answer, or exception, is looked at. */
    public interface Call {
        Object make();
    }

    private static int done = 0;
    private static int wrong = 0;

    private Checks() {
    }

    /** The answer as a text; an exception as throws.Name. */
    public static String answer(Call call) {
        try {
            return String.valueOf(call.make());
        } catch (RuntimeException e) {
            return "throws." + e.getClass().getSimpleName();
        }
    }

    public static void due(String what, Object want, Call call) {
        same(what, String.valueOf(want), answer(call));
    }

    public static void same(String what, Object want, Object got) {
        done++;
        if (!String.valueOf(want).equals(String.valueOf(got))) {
            wrong++;
            System.out.println(what + " answered " + got + ", due is " + want);
        }
    }

    public static void finish() {
        System.out.println(done + " checks, " + wrong + " wrong");
        if (wrong != 0 || done == 0) {
            System.exit(1);
        }
    }
}
