/**
 * Long sequences of calls of all kinds in all states, up to the 512 that an object is used for, with
 * arguments that are fine, just wrong and far off, against Model.
 */
public final class SequencesTest {
    private static final int OBJECTS = 1200;
    private static final int MOST_CALLS = 512;
    private static final int[] FAR = {Integer.MIN_VALUE, -2, -1, 3, 4, 6, 7, 16, 17, 18, 199, 200, 256, Integer.MAX_VALUE};
    private static final int CLEAR = 6;
    private static final int SHORTEN = 7;
    private static final int RESTART = 12;
    private static final int STEP = 13;
    private static long seed = 512;

    private static int below(int bound) {
        seed = seed * 6364136223846793005L + 1442695040888963407L;
        return (int) ((seed >>> 33) % bound);
    }

    public static void main(String[] args) {
        int[][] seen = new int[Model.CALLS.length][2];
        for (int i = 0; i < OBJECTS; i++) {
            use(i, seen);
        }
        for (int call = 0; call < Model.CALLS.length; call++) {
            boolean mayThrow = !Model.CALLS[call].equals("clear") && !Model.CALLS[call].equals("shorten");
            Checks.same(Model.CALLS[call] + " has answered", true, seen[call][0] > OBJECTS);
            Checks.same(Model.CALLS[call] + " has thrown", mayThrow, seen[call][1] > OBJECTS);
        }
        Checks.finish();
    }

    private static void use(int number, int[][] seen) {
        TracedCode x = new TracedCode();
        Model model = new Model();
        boolean writing = false;
        int left = 0;
        for (int i = 0; i < MOST_CALLS; i++) {
            if (left == 0) {
                writing = !writing;
                left = 2 + below(writing ? 18 : 120);
            }
            left--;
            int call = call(writing, left);
            int a = argument(call, 0);
            int b = argument(call, 1);
            int c = argument(call, 2);
            String due = model.due(call, a, b, c);
            seen[call][due.startsWith("throws") ? 1 : 0]++;
            Checks.due("object " + number + ", call " + i + ": " + Model.CALLS[call] + "(" + a + ", " + b + ", " + c + ")",
                    due, () -> Model.make(x, call, a, b, c));
        }
    }

    /** A program is written, shortened and run, mostly: now and then any call comes between. */
    private static int call(boolean writing, int left) {
        if (below(60) == 0) {
            return below(Model.CALLS.length);
        }
        if (writing) {
            return left == 0 ? SHORTEN : below(8) == 0 ? SHORTEN + 1 + below(Model.CALLS.length - SHORTEN - 1) : below(6);
        }
        if (left == 0 && below(2) == 0) {
            return CLEAR;
        }
        int call = SHORTEN + 1 + below(Model.CALLS.length - SHORTEN - 1);
        return below(3) == 0 || call == RESTART && below(4) > 0 ? STEP : call;
    }

    private static int argument(int call, int place) {
        String name = Model.CALLS[call];
        boolean isBrief = place == 1 && (name.equals("register") || name.equals("output"));
        if (isBrief) {
            return below(2);
        }
        if (below(14) == 0) {
            return FAR[below(FAR.length)];
        }
        switch (name) {
            case "set": return place == 1 ? below(5) - 2 : below(6);
            case "jump": return place == 1 ? below(17) : below(6);
            case "name": return below(place == 0 ? 3 : 6);
            case "part": return below(place == 0 ? 10 : 4);
            case "where": return below(place == 0 ? 10 : 3);
            case "carriers": return below(place == 0 ? 10 : 6);
            case "output": return below(2);
            case "value": return below(3);
            case "read": return below(3);
            default: return below(6);
        }
    }
}
