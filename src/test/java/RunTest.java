/** Promises 14 to 20: restart, step, line, register, output, value, read. */
public final class RunTest {
    private static final String STATE = "throws.IllegalStateException";
    private static final String INDEX = "throws.IndexOutOfBoundsException";
    private static final String NOWHERE = "throws.NoSuchElementException";
    private static final int[] NO_REGISTERS = {-1, 6, Integer.MIN_VALUE, Integer.MAX_VALUE};
    private static final int[] NO_VARIABLES = {-1, 3, Integer.MIN_VALUE, Integer.MAX_VALUE};

    public static void main(String[] args) {
        withoutShortProgram();
        stepsAndLines();
        jumps();
        twoHundredSteps();
        registers();
        outputs();
        values();
        readings();
        restarting();
        beginningByShorten();
        wrongInputs();
        Checks.finish();
    }

    private static void withoutShortProgram() {
        TracedCode x = Programs.written("NAME 0 0; OUT 0");
        Checks.due("restart", STATE, () -> restarted(x));
        Checks.due("step", STATE, () -> x.step());
        Checks.due("line", STATE, () -> x.line());
        Checks.due("register", STATE, () -> x.register(0, true));
        Checks.due("register of nothing", STATE, () -> x.register(6, false));
        Checks.due("output", STATE, () -> x.output(0, false));
        Checks.due("output of nothing", STATE, () -> x.output(-1, true));
        Checks.due("value", STATE, () -> x.value(0));
        Checks.due("value of nothing", STATE, () -> x.value(3));
        Checks.due("read", STATE, () -> x.read(0));
        Checks.due("read of nothing", STATE, () -> x.read(3));
    }

    private static Object restarted(TracedCode x) {
        x.restart();
        return "done";
    }

    private static void stepsAndLines() {
        TracedCode x = Programs.shortened("SET 0 1; NAME 0 0; OUT 0");
        Checks.due("line at first", 0, () -> x.line());
        for (int line = 1; line <= 3; line++) {
            int want = line;
            Checks.due("step", want, () -> x.step());
            Checks.due("line", want, () -> x.line());
        }
        Checks.due("step at the end", -1, () -> x.step());
        Checks.due("line at the end", 3, () -> x.line());
        Checks.due("step at the end again", -1, () -> x.step());
        Checks.due("only one output", INDEX, () -> x.output(1, true));
        TracedCode empty = Programs.shortened("");
        Checks.due("line of no program", 0, () -> empty.line());
        Checks.due("step of no program", -1, () -> empty.step());
    }

    private static void jumps() {
        TracedCode taken = Programs.shortened("JUMP 0 3; OUT 1; OUT 1; OUT 2");
        Checks.due("a jump by 0", 3, () -> taken.step());
        TracedCode notTaken = Programs.shortened("SET 0 -1; JUMP 0 3; OUT 1");
        notTaken.step();
        Checks.due("a jump by -1", 2, () -> notTaken.step());
        TracedCode toTheEnd = Programs.shortened("JUMP 0 2; OUT 1");
        Checks.due("a jump to the end", 2, () -> toTheEnd.step());
        Checks.due("a step behind it", -1, () -> toTheEnd.step());
        for (int k = 3; k <= 16; k++) {
            TracedCode beyond = Programs.shortened("JUMP 0 " + k + "; OUT 1");
            Checks.due("a jump to " + k, 2, () -> beyond.step());
            Checks.due("a step behind it", -1, () -> beyond.step());
        }
        TracedCode back = Programs.shortened("OUT 1; JUMP 0 0");
        back.step();
        Checks.due("a jump back", 0, () -> back.step());
        TracedCode loop = Programs.shortened("SET 0 2; SET 1 -1; ADD 0 0 1; JUMP 0 6; JUMP 2 2; OUT 1; OUT 0");
        StringBuilder lines = new StringBuilder();
        for (int i = 0; i < 9; i++) {
            lines.append(loop.step()).append(' ');
        }
        Checks.same("the lines of a loop", "1 2 3 4 2 3 6 7 -1 ", lines);
    }

    private static void twoHundredSteps() {
        TracedCode x = Programs.shortened("OUT 0; ADD 0 0 1; JUMP 2 0");
        for (int i = 1; i <= 200; i++) {
            int want = i % 3;
            Checks.due("step " + i, want, () -> x.step());
        }
        Checks.due("step 201", -1, () -> x.step());
        Checks.due("line after 200 steps", 2, () -> x.line());
        Checks.due("step 202", -1, () -> x.step());
        x.restart();
        Checks.due("a step anew", 1, () -> x.step());
        TracedCode self = Programs.shortened("JUMP 0 0");
        Programs.steps(self, 199);
        Checks.due("step 200 of a jump to itself", 0, () -> self.step());
        Checks.due("step 201 of a jump to itself", -1, () -> self.step());
        String loop = "SET 0 66; SET 1 -1; ADD 0 0 1; JUMP 0 5; JUMP 2 2; OUT 0";
        TracedCode end = Programs.shortened(loop);
        Programs.steps(end, 199);
        Checks.due("an end at the 200th step", 6, () -> end.step());
        Checks.due("a step at the end", -1, () -> end.step());
        TracedCode cut = Programs.shortened(loop + "; OUT 1");
        Programs.steps(cut, 199);
        Checks.due("a line more: step 200", 6, () -> cut.step());
        Checks.due("a line more: step 201", -1, () -> cut.step());
        Checks.due("the line that is not done", 6, () -> cut.line());
        Checks.due("its output", INDEX, () -> cut.output(1, false));
    }

    private static void registers() {
        TracedCode x = Programs.shortened("SET 0 7; COPY 1 0; ADD 2 1 1; SET 3 2147483647; ADD 4 3 3; SET 5 1; OUT 2; OUT 4; OUT 0");
        for (int r = 0; r < 6; r++) {
            int given = r;
            Checks.due("a register at first", 0, () -> x.register(given, false));
            Checks.due("a register at first", 0, () -> x.register(given, true));
        }
        Programs.steps(x, 9);
        int[] whole = {7, 7, 14, Integer.MAX_VALUE, -2, 1};
        int[] brief = {7, 0, 14, Integer.MAX_VALUE, -2, 0};
        for (int r = 0; r < 6; r++) {
            int given = r;
            Checks.due("register " + r, whole[r], () -> x.register(given, false));
            Checks.due("short register " + r, brief[r], () -> x.register(given, true));
        }
        TracedCode y = Programs.shortened("SET 1 5; ADD 1 1 1; OUT 1");
        y.step();
        Checks.due("before the add", 5, () -> y.register(1, true));
        y.step();
        Checks.due("behind the add", 10, () -> y.register(1, true));
    }

    private static void outputs() {
        TracedCode x = Programs.shortened("SET 0 7; COPY 1 0; OUT 1; ADD 2 1 0; OUT 2; OUT 3");
        Programs.steps(x, 2);
        Checks.due("no output yet", INDEX, () -> x.output(0, false));
        Checks.due("no output yet", INDEX, () -> x.output(0, true));
        Programs.steps(x, 3);
        Checks.due("third output before it is put out", INDEX, () -> x.output(2, true));
        Programs.steps(x, 1);
        int[] want = {7, 14, 0};
        for (int k = 0; k < 3; k++) {
            int given = k;
            Checks.due("output", want[k], () -> x.output(given, false));
            Checks.due("output", want[k], () -> x.output(given, true));
        }
        int[] none = {-1, 3, 199, 200, Integer.MIN_VALUE, Integer.MAX_VALUE};
        for (int k : none) {
            Checks.due("output " + k, INDEX, () -> x.output(k, false));
            Checks.due("short output " + k, INDEX, () -> x.output(k, true));
        }
        TracedCode many = Programs.shortened("OUT 0; OUT 0; OUT 0; OUT 0; OUT 0; OUT 0; OUT 0; OUT 0; OUT 0; OUT 0; OUT 0; OUT 0; OUT 0; OUT 0; OUT 0; JUMP 0 0");
        Programs.steps(many, 210);
        Checks.due("output 187 of 200 steps", 0, () -> many.output(187, true));
        Checks.due("output 188 of 200 steps", INDEX, () -> many.output(188, true));
    }

    private static void values() {
        TracedCode x = Programs.shortened("SET 0 7; NAME 1 0; SET 0 8; NAME 2 0; NAME 1 0");
        Checks.due("no value yet", STATE, () -> x.value(1));
        Programs.steps(x, 1);
        Checks.due("no value before its line", STATE, () -> x.value(1));
        Programs.steps(x, 1);
        Checks.due("its value", 7, () -> x.value(1));
        Checks.due("no value of another", STATE, () -> x.value(2));
        Programs.steps(x, 1);
        Checks.due("still what r was", 7, () -> x.value(1));
        Programs.steps(x, 2);
        Checks.due("named anew", 8, () -> x.value(1));
        Checks.due("the other", 8, () -> x.value(2));
        Checks.due("never named", STATE, () -> x.value(0));
        // Of the program itself, though the short one has it nowhere.
        TracedCode dead = Programs.shortened("SET 0 3; ADD 0 0 0; NAME 0 0");
        Programs.steps(dead, 3);
        Checks.due("a value that is not found", 6, () -> dead.value(0));
        Checks.due("reading it", NOWHERE, () -> dead.read(0));
    }

    private static void readings() {
        TracedCode x = Programs.shortened("SET 0 7; NAME 0 0; COPY 1 0; NAME 1 1; ADD 2 1 1; SET 0 3; OUT 2; NAME 2 2; OUT 1");
        Checks.due("read at first", NOWHERE, () -> x.read(0));
        Programs.steps(x, 2);
        Checks.due("read in a register", 7, () -> x.read(0));
        Checks.due("read before its line", NOWHERE, () -> x.read(1));
        Programs.steps(x, 7);
        Checks.due("read at the end", 7, () -> x.read(0));
        Checks.due("read in another register", 7, () -> x.read(1));
        Checks.due("read of a sum", 14, () -> x.read(2));
        TracedCode constant = Programs.shortened("SET 4 -5; NAME 2 4; SET 4 9; NAME 1 4");
        Programs.steps(constant, 4);
        Checks.due("read of a constant", -5, () -> constant.read(2));
        Checks.due("read of another constant", 9, () -> constant.read(1));
        TracedCode passed = Programs.shortened("SET 0 5; COPY 3 0; SET 0 6; NAME 1 3; NAME 2 0");
        Programs.steps(passed, 5);
        Checks.due("read of a constant by a copy", 5, () -> passed.read(1));
        Checks.due("read of the one that came behind it", 6, () -> passed.read(2));
        // Not by all ways: it has a value then, but is not found.
        TracedCode ways = Programs.shortened("JUMP 0 2; OUT 1; NAME 0 1; JUMP 2 1");
        Programs.steps(ways, 3);
        Checks.due("line", 1, () -> ways.line());
        Checks.due("a value by this way", 0, () -> ways.value(0));
        Checks.due("not found by all ways", NOWHERE, () -> ways.read(0));
    }

    private static void restarting() {
        TracedCode x = Programs.shortened("SET 0 7; NAME 0 0; OUT 0; COPY 3 0");
        Programs.steps(x, 9);
        Checks.due("restart", "done", () -> restarted(x));
        Checks.due("line", 0, () -> x.line());
        Checks.due("register", 0, () -> x.register(0, false));
        Checks.due("register", 0, () -> x.register(3, false));
        Checks.due("short register", 0, () -> x.register(0, true));
        Checks.due("output", INDEX, () -> x.output(0, false));
        Checks.due("short output", INDEX, () -> x.output(0, true));
        Checks.due("value", STATE, () -> x.value(0));
        Checks.due("kept", 3, () -> x.kept());
        Checks.due("step", 1, () -> x.step());
        Programs.steps(x, 2);
        Checks.due("value anew", 7, () -> x.value(0));
        Checks.due("output anew", 7, () -> x.output(0, true));
    }

    private static void beginningByShorten() {
        TracedCode x = Programs.shortened("SET 0 7; NAME 0 0; OUT 0");
        Programs.steps(x, 3);
        x.shorten();
        Checks.due("line", 0, () -> x.line());
        Checks.due("register", 0, () -> x.register(0, false));
        Checks.due("short register", 0, () -> x.register(0, true));
        Checks.due("output", INDEX, () -> x.output(0, true));
        Checks.due("value", STATE, () -> x.value(0));
        x.clear();
        x.name(0, 5);
        x.shorten();
        Checks.due("value of a new program", STATE, () -> x.value(0));
        Checks.due("register of a new program", 0, () -> x.register(0, false));
        TracedCode looping = Programs.shortened("JUMP 0 0");
        Programs.steps(looping, 200);
        looping.shorten();
        Checks.due("step after 200 and shorten", 0, () -> looping.step());
    }

    private static void wrongInputs() {
        TracedCode x = Programs.shortened("NAME 0 0; OUT 0");
        for (int r : NO_REGISTERS) {
            Checks.due("register " + r, INDEX, () -> x.register(r, false));
            Checks.due("short register " + r, INDEX, () -> x.register(r, true));
        }
        for (int v : NO_VARIABLES) {
            Checks.due("value of " + v, INDEX, () -> x.value(v));
            Checks.due("read of " + v, INDEX, () -> x.read(v));
        }
        Checks.due("line after wrong inputs", 0, () -> x.line());
        Checks.due("kept after wrong inputs", 2, () -> x.kept());
    }
}
