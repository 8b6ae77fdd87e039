/** Compares answers with what is due, and ends a test with exit code 1 if one was wrong. */
public final class Checks {
    /** A call of the face whose answer, or exception, is looked at. */
    public interface Call {
        Object make();
    }

    private static int done = 0;
    private static int wrong = 0;
    private static int sentences = 0;
    private static String sentence = "";
    private static int doneBefore = 0;

    private Checks() {
    }

    /** Says which sentence of the document the checks that follow are of. */
    public static void sentence(String text) {
        endSentence();
        sentences++;
        sentence = text;
        doneBefore = done;
    }

    /** A sentence that nothing was checked of would pass unseen. */
    private static void endSentence() {
        if (!sentence.isEmpty() && done == doneBefore) {
            wrong++;
            System.out.println("[" + sentence + "] nothing checked");
        }
    }

    /** The answer as a text; an exception as throws.Name. */
    public static String answer(Call call) {
        try {
            return String.valueOf(call.make());
        } catch (RuntimeException e) {
            return "throws." + e.getClass().getSimpleName();
        }
    }

    public static void due(String what, Object want, Call call) {
        same(what, String.valueOf(want), answer(call));
    }

    public static void same(String what, Object want, Object got) {
        done++;
        if (!String.valueOf(want).equals(String.valueOf(got))) {
            wrong++;
            String of = sentence.isEmpty() ? "" : "[" + sentence + "] ";
            System.out.println(of + what + " answered " + got + ", due is " + want);
        }
    }

    public static void finish() {
        endSentence();
        String of = sentences == 0 ? "" : sentences + " sentences, ";
        System.out.println(of + done + " checks, " + wrong + " wrong");
        if (wrong != 0 || done == 0) {
            System.exit(1);
        }
    }
}
