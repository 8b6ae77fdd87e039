import java.util.ArrayList;
import java.util.List;

/** Terms: "A call that throws changes nothing; of two exceptions that fit, the one named first is thrown." */
public final class RefusedCallsTest {
    private interface Action {
        Object on(TracedCode x);
    }

    private static final class Refused {
        final String title;
        final String exception;
        final Action call;

        Refused(String title, String exception, Action call) {
            this.title = title;
            this.exception = exception;
            this.call = call;
        }
    }

    public static void main(String[] args) {
        changingNothing();
        argumentBeforeState();
        stateBeforeIndex();
        indexBeforeNowhere();
        stateBeforeNowhere();
        noVariableHasNoMissingValue();
        Checks.finish();
    }

    private static void changingNothing() {
        Checks.sentence("A call that throws changes nothing");
        for (States.State state : States.all()) {
            String before = Observed.all(state.maker);
            for (Refused refused : refusedIn(state)) {
                String title = state.title + ": " + refused.title;
                Checks.due(title, refused.exception, () -> refused.call.on(state.maker.make()));
                Checks.same("all behind " + title, before, Observed.all(() -> after(state, refused)));
            }
        }
    }

    private static TracedCode after(States.State state, Refused refused) {
        TracedCode x = state.maker.make();
        Checks.answer(() -> refused.call.on(x));
        return x;
    }

    private static List<Refused> refusedIn(States.State state) {
        List<Refused> refused = wrongLines(Wrong.ARGUMENT);
        if (state.lines == 16) {
            refused.addAll(rightLines(Wrong.STATE));
        }
        if (!state.shortened) {
            refused.addAll(rightCalls(Wrong.STATE));
            refused.addAll(wrongCalls(state.lines, Wrong.STATE));
        } else {
            refused.addAll(wrongCalls(state.lines, Wrong.INDEX));
            refused.add(new Refused("value(2)", Wrong.STATE, x -> x.value(2)));
            refused.add(new Refused("read(2)", Wrong.NOWHERE, x -> x.read(2)));
        }
        return refused;
    }

    private static List<Refused> wrongLines(String exception) {
        List<Refused> wrong = new ArrayList<>();
        for (int r : new int[] {-1, 6}) {
            wrong.add(new Refused("set(" + r + ", 1)", exception, x -> x.set(r, 1)));
            wrong.add(new Refused("copy(" + r + ", 1)", exception, x -> x.copy(r, 1)));
            wrong.add(new Refused("copy(1, " + r + ")", exception, x -> x.copy(1, r)));
            wrong.add(new Refused("add(" + r + ", 1, 1)", exception, x -> x.add(r, 1, 1)));
            wrong.add(new Refused("add(1, " + r + ", 1)", exception, x -> x.add(1, r, 1)));
            wrong.add(new Refused("add(1, 1, " + r + ")", exception, x -> x.add(1, 1, r)));
            wrong.add(new Refused("out(" + r + ")", exception, x -> x.out(r)));
            wrong.add(new Refused("jump(" + r + ", 1)", exception, x -> x.jump(r, 1)));
            wrong.add(new Refused("name(1, " + r + ")", exception, x -> x.name(1, r)));
        }
        for (int k : new int[] {-1, 17}) {
            wrong.add(new Refused("jump(1, " + k + ")", exception, x -> x.jump(1, k)));
        }
        for (int v : new int[] {-1, 3}) {
            wrong.add(new Refused("name(" + v + ", 1)", exception, x -> x.name(v, 1)));
        }
        return wrong;
    }

    private static List<Refused> rightLines(String exception) {
        List<Refused> lines = new ArrayList<>();
        lines.add(new Refused("set(1, 1)", exception, x -> x.set(1, 1)));
        lines.add(new Refused("copy(1, 2)", exception, x -> x.copy(1, 2)));
        lines.add(new Refused("add(1, 2, 3)", exception, x -> x.add(1, 2, 3)));
        lines.add(new Refused("out(1)", exception, x -> x.out(1)));
        lines.add(new Refused("jump(1, 16)", exception, x -> x.jump(1, 16)));
        lines.add(new Refused("name(1, 1)", exception, x -> x.name(1, 1)));
        return lines;
    }

    /** The calls that need a short program, with arguments that are fine. */
    private static List<Refused> rightCalls(String exception) {
        List<Refused> calls = new ArrayList<>();
        calls.add(new Refused("kept()", exception, x -> x.kept()));
        calls.add(new Refused("part(0, 0)", exception, x -> x.part(0, 0)));
        calls.add(new Refused("where(0, 0)", exception, x -> x.where(0, 0)));
        calls.add(new Refused("carriers(0, 0)", exception, x -> x.carriers(0, 0)));
        calls.add(new Refused("restart()", exception, x -> restarted(x)));
        calls.add(new Refused("step()", exception, x -> x.step()));
        calls.add(new Refused("line()", exception, x -> x.line()));
        calls.add(new Refused("register(0, false)", exception, x -> x.register(0, false)));
        calls.add(new Refused("register(0, true)", exception, x -> x.register(0, true)));
        calls.add(new Refused("output(0, false)", exception, x -> x.output(0, false)));
        calls.add(new Refused("output(0, true)", exception, x -> x.output(0, true)));
        calls.add(new Refused("value(0)", exception, x -> x.value(0)));
        calls.add(new Refused("read(0)", exception, x -> x.read(0)));
        return calls;
    }

    private static Object restarted(TracedCode x) {
        x.restart();
        return "done";
    }

    /** The calls with lines, places, points, registers, variables and outputs that there are not. */
    private static List<Refused> wrongCalls(int lines, String exception) {
        List<Refused> calls = new ArrayList<>();
        for (int line : new int[] {-1, lines}) {
            calls.add(new Refused("part(" + line + ", 0)", exception, x -> x.part(line, 0)));
        }
        for (int i : new int[] {-1, 4}) {
            calls.add(new Refused("part(0, " + i + ")", exception, x -> x.part(0, i)));
        }
        for (int point : new int[] {-1, lines + 1}) {
            calls.add(new Refused("where(" + point + ", 0)", exception, x -> x.where(point, 0)));
            calls.add(new Refused("carriers(" + point + ", 0)", exception, x -> x.carriers(point, 0)));
        }
        for (int r : new int[] {-1, 6}) {
            calls.add(new Refused("carriers(0, " + r + ")", exception, x -> x.carriers(0, r)));
            calls.add(new Refused("register(" + r + ", false)", exception, x -> x.register(r, false)));
            calls.add(new Refused("register(" + r + ", true)", exception, x -> x.register(r, true)));
        }
        for (int v : new int[] {-1, 3}) {
            calls.add(new Refused("where(0, " + v + ")", exception, x -> x.where(0, v)));
            calls.add(new Refused("value(" + v + ")", exception, x -> x.value(v)));
            calls.add(new Refused("read(" + v + ")", exception, x -> x.read(v)));
        }
        for (int k : new int[] {-1, 200}) {
            calls.add(new Refused("output(" + k + ", false)", exception, x -> x.output(k, false)));
            calls.add(new Refused("output(" + k + ", true)", exception, x -> x.output(k, true)));
        }
        return calls;
    }

    private static void dueIn(String program, List<Refused> calls) {
        for (Refused refused : calls) {
            TracedCode x = Programs.written(program);
            Checks.due(refused.title, refused.exception, () -> refused.call.on(x));
        }
    }

    private static void argumentBeforeState() {
        Checks.sentence("of two exceptions that fit, the one named first: a wrong argument and 16 lines");
        dueIn(States.SIXTEEN, wrongLines(Wrong.ARGUMENT));
        TracedCode full = Programs.shortened(States.SIXTEEN);
        Checks.due("shortened: set of no register", Wrong.ARGUMENT, () -> full.set(6, 1));
    }

    private static void stateBeforeIndex() {
        Checks.sentence("of two exceptions that fit, the one named first: no short program and no such line, place, point");
        dueIn("", wrongCalls(0, Wrong.STATE));
        dueIn("OUT 0; NAME 0 0", wrongCalls(2, Wrong.STATE));
        dueIn(States.SIXTEEN, wrongCalls(16, Wrong.STATE));
    }

    private static void indexBeforeNowhere() {
        Checks.sentence("of two exceptions that fit, the one named first: no such variable, that is not found either");
        for (int v : Wrong.VARIABLES) {
            Checks.due("read of " + v, Wrong.INDEX, () -> Programs.shortened("").read(v));
            Checks.due("read of " + v, Wrong.INDEX, () -> Programs.shortened(States.SOME).read(v));
        }
    }

    private static void stateBeforeNowhere() {
        Checks.sentence("of two exceptions that fit, the one named first: no short program, and a variable that is not found");
        for (int v = 0; v < 3; v++) {
            int given = v;
            Checks.due("read of " + v, Wrong.STATE, () -> new TracedCode().read(given));
            Checks.due("read of " + v, Wrong.STATE, () -> Programs.written("OUT 0").read(given));
        }
    }

    /** "It has no value yet" is said of a variable, so it does not fit where there is none. */
    private static void noVariableHasNoMissingValue() {
        Checks.sentence("of two exceptions that fit, the one named first: no such variable, when none has a value");
        for (int v : Wrong.VARIABLES) {
            Checks.due("value of " + v, Wrong.INDEX, () -> Programs.shortened("").value(v));
            Checks.due("value of " + v, Wrong.INDEX, () -> Programs.shortened(States.SOME).value(v));
        }
    }
}
