/** All that the face tells of an object, as a text, so that two objects can be compared. */
public final class Observed {
    private Observed() {
    }

    /**
     * Each part is asked of an object of its own: an object is used for at most 512 calls, and some
     * parts change it.
     */
    public static String all(States.Maker maker) {
        return shortProgram(maker.make()) + found(maker.make()) + run(maker.make())
                + outputs(maker.make(), false) + outputs(maker.make(), true) + stepsLeft(maker.make())
                + linesAnew(maker.make()) + ", next line " + Checks.answer(() -> nextLine(maker.make()));
    }

    private static int nextLine(TracedCode x) {
        return x.out(0);
    }

    private static String shortProgram(TracedCode x) {
        StringBuilder text = new StringBuilder("kept " + Checks.answer(() -> x.kept()) + ", parts");
        for (int line = 0; line <= 16; line++) {
            for (int i = 0; i <= 3; i++) {
                int l = line;
                int place = i;
                text.append(' ').append(Checks.answer(() -> x.part(l, place)));
            }
        }
        return text.toString();
    }

    private static String found(TracedCode x) {
        StringBuilder text = new StringBuilder(", where and carriers");
        for (int p = 0; p <= 17; p++) {
            int point = p;
            for (int i = 0; i < 3; i++) {
                int v = i;
                text.append(' ').append(Checks.answer(() -> x.where(point, v)));
            }
            for (int i = 0; i < 6; i++) {
                int r = i;
                text.append(' ').append(Checks.answer(() -> x.carriers(point, r)));
            }
        }
        return text.toString();
    }

    private static String run(TracedCode x) {
        StringBuilder text = new StringBuilder(", line " + Checks.answer(() -> x.line()) + ", registers");
        for (int i = 0; i < 6; i++) {
            int r = i;
            text.append(' ').append(Checks.answer(() -> x.register(r, false)));
            text.append(' ').append(Checks.answer(() -> x.register(r, true)));
        }
        text.append(", values and readings");
        for (int i = 0; i < 3; i++) {
            int v = i;
            text.append(' ').append(Checks.answer(() -> x.value(v)));
            text.append(' ').append(Checks.answer(() -> x.read(v)));
        }
        return text.toString();
    }

    private static String outputs(TracedCode x, boolean brief) {
        StringBuilder text = new StringBuilder(", outputs");
        for (int i = 0; i <= 200; i++) {
            int k = i;
            String output = Checks.answer(() -> x.output(k, brief));
            text.append(' ').append(output);
            if (output.startsWith("throws")) {
                break;
            }
        }
        return text.toString();
    }

    private static String stepsLeft(TracedCode x) {
        StringBuilder text = new StringBuilder(", steps");
        for (int i = 0; i <= 200; i++) {
            String line = Checks.answer(() -> x.step());
            text.append(' ').append(line);
            if (line.equals("-1") || line.startsWith("throws")) {
                break;
            }
        }
        return text.toString();
    }

    /** What the lines are, whether there is a short program of them now or not. */
    private static String linesAnew(TracedCode x) {
        String rounds = ", shorten " + x.shorten() + " " + Programs.brief(x);
        Programs.steps(x, 20);
        return rounds + run(x);
    }
}
