import java.util.ArrayList;
import java.util.List;

/** Terms: "To add a line, or to clear, discards the short program, all carriers and the run." */
public final class DiscardTest {
    private static final String[] LINES = {"SET 0 1", "COPY 0 1", "ADD 0 1 2", "OUT 0", "JUMP 0 0", "NAME 0 0"};

    /** The last ones write what was live at their ends in the programs before. */
    private static final String[] OTHERS = {"", "NAME 2 4; COPY 4 5; OUT 4; JUMP 4 0", "NAME 2 4; SET 0 8",
        "SET 0 1; SET 1 1; SET 2 1; SET 3 1; SET 4 1; SET 5 1", "JUMP 0 0; OUT 1; JUMP 1 1; ADD 2 2 2"};

    public static void main(String[] args) {
        addingDiscards();
        addingLeavesNoTrace();
        clearDiscards();
        clearLeavesNoTrace();
        Checks.finish();
    }

    private static List<States.State> withRoom() {
        List<States.State> states = new ArrayList<>();
        for (States.State state : States.shortened()) {
            if (state.lines < 16) {
                states.add(state);
            }
        }
        return states;
    }

    private static TracedCode added(States.State state, String line) {
        TracedCode x = state.maker.make();
        Programs.append(x, line);
        return x;
    }

    private static TracedCode cleared(States.State state) {
        TracedCode x = state.maker.make();
        x.clear();
        return x;
    }

    private static TracedCode shortened(TracedCode x) {
        x.shorten();
        return x;
    }

    private static void nothingLeft(String title, TracedCode x) {
        Checks.due(title + ": kept", Wrong.STATE, () -> x.kept());
        Checks.due(title + ": part", Wrong.STATE, () -> x.part(0, 0));
        Checks.due(title + ": where", Wrong.STATE, () -> x.where(0, 0));
        Checks.due(title + ": carriers", Wrong.STATE, () -> x.carriers(0, 0));
        Checks.due(title + ": step", Wrong.STATE, () -> x.step());
        Checks.due(title + ": line", Wrong.STATE, () -> x.line());
        Checks.due(title + ": register", Wrong.STATE, () -> x.register(0, false));
        Checks.due(title + ": short register", Wrong.STATE, () -> x.register(0, true));
        Checks.due(title + ": output", Wrong.STATE, () -> x.output(0, false));
        Checks.due(title + ": short output", Wrong.STATE, () -> x.output(0, true));
        Checks.due(title + ": value", Wrong.STATE, () -> x.value(0));
        Checks.due(title + ": read", Wrong.STATE, () -> x.read(0));
        Checks.due(title + ": restart", Wrong.STATE, () -> restarted(x));
    }

    private static Object restarted(TracedCode x) {
        x.restart();
        return "done";
    }

    private static void addingDiscards() {
        Checks.sentence("To add a line discards the short program, all carriers and the run");
        for (States.State state : withRoom()) {
            for (String line : LINES) {
                nothingLeft(state.title + ", then " + line, added(state, line));
            }
        }
    }

    /** What is made anew is as if there had been no short program and no run before. */
    private static void addingLeavesNoTrace() {
        Checks.sentence("To add a line discards, so that shorten makes all anew");
        String[] programs = {"", States.SOME, States.LOOP};
        int[] lines = {0, 8, 5};
        for (States.State state : withRoom()) {
            for (int i = 0; i < programs.length; i++) {
                if (state.lines != lines[i]) {
                    continue;
                }
                for (String line : LINES) {
                    String whole = programs[i] + ";" + line;
                    Checks.same(state.title + ", then " + line + " and shorten",
                            Observed.all(() -> Programs.shortened(whole)),
                            Observed.all(() -> shortened(added(state, line))));
                }
            }
        }
    }

    private static void clearDiscards() {
        Checks.sentence("To clear discards the short program, all carriers and the run");
        for (States.State state : States.all()) {
            nothingLeft(state.title + ", then clear", cleared(state));
        }
    }

    private static void clearLeavesNoTrace() {
        Checks.sentence("To clear discards, so that the object is as a new one");
        String fresh = Observed.all(() -> new TracedCode());
        for (States.State state : States.all()) {
            Checks.same(state.title + ", then clear", fresh, Observed.all(() -> cleared(state)));
        }
        for (String other : OTHERS) {
            String made = Observed.all(() -> Programs.shortened(other));
            for (States.State state : States.all()) {
                Checks.same(state.title + ", then clear and " + other, made,
                        Observed.all(() -> shortened(Programs.onto(cleared(state), other))));
            }
        }
    }
}
