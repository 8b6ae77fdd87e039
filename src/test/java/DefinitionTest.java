import java.util.Arrays;

/**
 * Many programs, made by a fixed sequence of numbers: every answer of promises 9 to 20 on them against
 * Model, and so against the document's definitions. Besides, a variable that is found is read as it is
 * in the program, and both programs put out the same. The document stops at 512 calls of an object;
 * the class has no such limit, and this test makes use of that.
 */
public final class DefinitionTest {
    private static final int PROGRAMS = 6000;
    private static long seed = 20261115;
    private static int mostRounds = 0;
    private static int found = 0;

    public static void main(String[] args) {
        TracedCode used = new TracedCode();
        for (int i = 0; i < PROGRAMS; i++) {
            int[][] program = made();
            TracedCode x = i % 2 == 0 ? new TracedCode() : used;
            Both both = new Both(x, Arrays.deepToString(program));
            both.call("clear", 0, 0, 0);
            for (int[] line : program) {
                both.call(Model.CALLS[line[0]], line[1], line[2], line[3]);
            }
            compare(both, program.length);
            runThrough(both, x);
        }
        System.out.println(PROGRAMS + " programs, at most " + mostRounds + " rounds, " + found + " readings of found variables");
        Checks.same("enough seen", true, found > PROGRAMS && mostRounds > 3);
        Checks.finish();
    }

    /** An object and the model of it, on which the same calls are made. */
    private static final class Both {
        private final TracedCode x;
        private final Model model = new Model();
        private final String program;

        Both(TracedCode x, String program) {
            this.x = x;
            this.program = program;
        }

        String call(String name, int a, int b, int c) {
            int call = Arrays.asList(Model.CALLS).indexOf(name);
            String due = model.due(call, a, b, c);
            String got = Checks.answer(() -> Model.make(x, call, a, b, c));
            if (!due.equals(got)) {
                Checks.same(name + "(" + a + ", " + b + ", " + c + ") of " + program, due, got);
            }
            return got;
        }
    }

    private static int below(int bound) {
        seed = seed * 6364136223846793005L + 1442695040888963407L;
        return (int) ((seed >>> 33) % bound);
    }

    /** Programs of several tempers: few registers, many copies, many jumps. */
    private static int[][] made() {
        int registers = 2 + below(5);
        int copies = below(4);
        int jumps = below(3);
        int[][] program = new int[below(17)][];
        for (int p = 0; p < program.length; p++) {
            int kind = below(6 + copies + jumps);
            kind = kind >= 6 + copies ? 4 : kind >= 6 ? 1 : kind;
            int r = below(registers);
            int s = below(registers);
            int t = below(registers);
            int c = below(4) - 1;
            int k = below(17);
            int v = below(3);
            int[][] lines = {{0, r, c, 0}, {1, r, s, 0}, {2, r, s, t}, {3, r, 0, 0}, {4, r, k, 0}, {5, v, r, 0}};
            program[p] = lines[kind];
        }
        return program;
    }

    private static void compare(Both both, int n) {
        mostRounds = Math.max(mostRounds, Integer.parseInt(both.call("shorten", 0, 0, 0)));
        both.call("kept", 0, 0, 0);
        for (int p = 0; p < n; p++) {
            for (int i = 0; i < 4; i++) {
                both.call("part", p, i, 0);
            }
        }
        for (int p = 0; p <= n; p++) {
            for (int r = 0; r < 6; r++) {
                both.call("carriers", p, r, 0);
            }
            for (int v = 0; v < 3; v++) {
                both.call("where", p, v, 0);
            }
        }
    }

    private static void runThrough(Both both, TracedCode x) {
        boolean goesOn = true;
        for (int steps = 0; goesOn && steps <= 200; steps++) {
            both.call("line", 0, 0, 0);
            for (int r = 0; r < 6; r++) {
                both.call("register", r, 0, 0);
                both.call("register", r, 1, 0);
            }
            for (int v = 0; v < 3; v++) {
                String value = both.call("value", v, 0, 0);
                String read = both.call("read", v, 0, 0);
                if (x.where(x.line(), v) != TracedCode.NONE) {
                    found++;
                    Checks.same("read of a variable that is found in " + both.program, value, read);
                }
            }
            goesOn = !both.call("step", 0, 0, 0).equals("-1");
        }
        String output = "";
        for (int k = 0; k <= 200 && !output.startsWith("throws"); k++) {
            output = both.call("output", k, 0, 0);
            Checks.same("short output " + k + " of " + both.program, output, both.call("output", k, 1, 0));
        }
    }
}
