/** Promises 14 to 20, sentence by sentence: restart, step, line, register, output, value, read. */
public final class RunTest {
    private static final String NAMED = "SET 0 7; NAME 0 0; COPY 1 0; NAME 1 1; ADD 2 1 1; SET 0 3; OUT 2; NAME 2 2; OUT 1";

    public static void main(String[] args) {
        restartInARun();
        restartAtTheEnd();
        restartAfterTwoHundredSteps();
        restartKeepsTheShortProgram();
        restartWithoutShortProgram();
        stepAnswersItsLine();
        stepsOfALoop();
        stepAtTheEnd();
        stepAfterTwoHundred();
        stepWithoutShortProgram();
        lineOfTheRun();
        lineWithoutShortProgram();
        registersOfBoth();
        registersWithoutShortProgram();
        registersThatThereAreNot();
        outputsOfBoth();
        mostOutputs();
        outputsWithoutShortProgram();
        outputsThatThereWereNot();
        valuesByTheProgram();
        valueWithoutShortProgram();
        valueBeforeItsLine();
        valueOfNoVariable();
        readInRegisters();
        readAsConstants();
        readAtTheLineOfTheRun();
        readWithoutShortProgram();
        readOfNoVariable();
        readOfWhatIsNotFound();
        Checks.finish();
    }

    private static Object restarted(TracedCode x) {
        x.restart();
        return "done";
    }

    private static void atFirst(TracedCode x) {
        Checks.due("line", 0, () -> x.line());
        for (int i = 0; i < 6; i++) {
            int r = i;
            Checks.due("register", 0, () -> x.register(r, false));
            Checks.due("short register", 0, () -> x.register(r, true));
        }
        Checks.due("output", Wrong.INDEX, () -> x.output(0, false));
        Checks.due("short output", Wrong.INDEX, () -> x.output(0, true));
        for (int i = 0; i < 3; i++) {
            int v = i;
            Checks.due("value", Wrong.STATE, () -> x.value(v));
            Checks.due("read", Wrong.NOWHERE, () -> x.read(v));
        }
    }

    private static void restartInARun() {
        Checks.sentence("Promise 14: The run begins anew");
        for (int steps = 0; steps < 9; steps++) {
            TracedCode x = Programs.run(NAMED, steps);
            Checks.due("restart", "done", () -> restarted(x));
            atFirst(x);
            Programs.steps(x, 9);
            Checks.due("output anew", 14, () -> x.output(0, true));
            Checks.due("only as many outputs", Wrong.INDEX, () -> x.output(2, true));
            Checks.due("value anew", 14, () -> x.value(2));
        }
    }

    private static void restartAtTheEnd() {
        Checks.sentence("Promise 14: The run begins anew, at the end and without lines too");
        TracedCode x = Programs.run(NAMED, 12);
        x.restart();
        atFirst(x);
        Checks.due("step", 1, () -> x.step());
        TracedCode none = Programs.run("", 1);
        none.restart();
        atFirst(none);
        Checks.due("step without lines", -1, () -> none.step());
    }

    private static void restartAfterTwoHundredSteps() {
        Checks.sentence("Promise 14: The run begins anew, with 200 steps");
        TracedCode x = Programs.run("JUMP 0 0", 201);
        x.restart();
        for (int i = 1; i <= 200; i++) {
            Checks.due("step " + i, 0, () -> x.step());
        }
        Checks.due("step 201", -1, () -> x.step());
        TracedCode halfway = Programs.run("JUMP 0 0", 100);
        halfway.restart();
        Programs.steps(halfway, 199);
        Checks.due("step 200 after 100 and restart", 0, () -> halfway.step());
        Checks.due("step 201 after 100 and restart", -1, () -> halfway.step());
    }

    private static void restartKeepsTheShortProgram() {
        Checks.sentence("Promise 14: The run begins anew, of the same short program");
        TracedCode x = Programs.run(NAMED, 4);
        x.restart();
        Checks.due("kept", 7, () -> x.kept());
        Checks.due("where", 0, () -> x.where(2, 0));
        Checks.same("the short program",
                "SET 0 7; NAME 0 0; .; NAME 1 0; ADD 2 0 0; .; OUT 2; NAME 2 2; OUT 0", Programs.brief(x));
    }

    private static void restartWithoutShortProgram() {
        Checks.sentence("Promise 14: IllegalStateException when there is no short program");
        Checks.due("restart of a new object", Wrong.STATE, () -> restarted(new TracedCode()));
        Checks.due("restart before shorten", Wrong.STATE, () -> restarted(Programs.written("OUT 0")));
    }

    private static void stepAnswersItsLine() {
        Checks.sentence("Promise 15: Does a step; answers the line at which the run is then");
        TracedCode x = Programs.shortened("SET 0 1; NAME 0 0; OUT 0");
        for (int line = 1; line <= 3; line++) {
            int want = line;
            Checks.due("step", want, () -> x.step());
            Checks.due("line", want, () -> x.line());
        }
        TracedCode sum = Programs.run("SET 1 5; ADD 1 1 1; OUT 1", 1);
        Checks.due("before the add", 5, () -> sum.register(1, true));
        sum.step();
        Checks.due("behind the add", 10, () -> sum.register(1, true));
    }

    private static void stepsOfALoop() {
        Checks.sentence("Promise 15: answers the line at which the run is then, behind a jump too");
        TracedCode back = Programs.run("OUT 1; JUMP 0 0", 1);
        Checks.due("a jump back", 0, () -> back.step());
        TracedCode loop = Programs.shortened("SET 0 2; SET 1 -1; ADD 0 0 1; JUMP 0 6; JUMP 2 2; OUT 1; OUT 0");
        StringBuilder lines = new StringBuilder();
        for (int i = 0; i < 9; i++) {
            lines.append(loop.step()).append(' ');
        }
        Checks.same("the lines of a loop", "1 2 3 4 2 3 6 7 -1 ", lines);
    }

    private static void stepAtTheEnd() {
        Checks.sentence("Promise 15: NONE when it does not go on (at the end)");
        TracedCode x = Programs.shortened("SET 0 1; OUT 0");
        Checks.due("step", 1, () -> x.step());
        Checks.due("the step to the end", 2, () -> x.step());
        for (int i = 0; i < 3; i++) {
            Checks.due("a step at the end", TracedCode.NONE, () -> x.step());
            Checks.due("line", 2, () -> x.line());
        }
        Checks.due("only one output", Wrong.INDEX, () -> x.output(1, true));
        Checks.due("a step without lines", TracedCode.NONE, () -> Programs.shortened("").step());
        TracedCode jump = Programs.shortened("JUMP 0 16; OUT 0");
        Checks.due("a jump to the end", 2, () -> jump.step());
        Checks.due("a step behind it", TracedCode.NONE, () -> jump.step());
    }

    private static void stepAfterTwoHundred() {
        Checks.sentence("Promise 15: NONE when it does not go on (after 200 steps)");
        TracedCode x = Programs.shortened("OUT 0; ADD 0 0 1; JUMP 2 0");
        for (int i = 1; i <= 200; i++) {
            int want = i % 3;
            Checks.due("step " + i, want, () -> x.step());
        }
        for (int i = 201; i <= 203; i++) {
            Checks.due("step " + i, TracedCode.NONE, () -> x.step());
            Checks.due("line", 2, () -> x.line());
        }
    }

    private static void stepWithoutShortProgram() {
        Checks.sentence("Promise 15: IllegalStateException when there is no short program");
        Checks.due("step of a new object", Wrong.STATE, () -> new TracedCode().step());
        Checks.due("step before shorten", Wrong.STATE, () -> Programs.written("OUT 0").step());
    }

    private static void lineOfTheRun() {
        Checks.sentence("Promise 16: The line at which the run is");
        Checks.due("line without lines", 0, () -> Programs.shortened("").line());
        for (int n = 1; n <= 16; n++) {
            String program = Programs.times(n, "OUT 0");
            Checks.due("line at first", 0, () -> Programs.shortened(program).line());
            int end = n;
            Checks.due("line at the last", end - 1, () -> Programs.run(program, end - 1).line());
            Checks.due("line at the end", end, () -> Programs.run(program, end).line());
            Checks.due("line at the end", end, () -> Programs.run(program, end + 1).line());
        }
        Checks.due("line after 200 steps", 2, () -> Programs.run("OUT 0; OUT 0; JUMP 0 0", 200).line());
    }

    private static void lineWithoutShortProgram() {
        Checks.sentence("Promise 16: IllegalStateException when there is no short program");
        Checks.due("line of a new object", Wrong.STATE, () -> new TracedCode().line());
        Checks.due("line before shorten", Wrong.STATE, () -> Programs.written("OUT 0").line());
    }

    private static void registersOfBoth() {
        Checks.sentence("Promise 17: A register's value in the run, in the program or (when brief) the short one");
        TracedCode x = Programs.run("SET 0 7; COPY 1 0; ADD 2 1 1; SET 3 2147483647; ADD 4 3 3; SET 5 1; OUT 2; OUT 4; OUT 0", 9);
        int[] whole = {7, 7, 14, Integer.MAX_VALUE, -2, 1};
        int[] brief = {7, 0, 14, Integer.MAX_VALUE, -2, 0};
        for (int r = 0; r < 6; r++) {
            int given = r;
            Checks.due("register " + r, whole[r], () -> x.register(given, false));
            Checks.due("short register " + r, brief[r], () -> x.register(given, true));
        }
    }

    private static void registersWithoutShortProgram() {
        Checks.sentence("Promise 17: IllegalStateException when there is no short program");
        for (boolean brief : new boolean[] {false, true}) {
            Checks.due("register of a new object", Wrong.STATE, () -> new TracedCode().register(0, brief));
            Checks.due("register before shorten", Wrong.STATE, () -> Programs.written("OUT 0").register(5, brief));
            Checks.due("no register before shorten", Wrong.STATE, () -> Programs.written("OUT 0").register(6, brief));
        }
    }

    private static void registersThatThereAreNot() {
        Checks.sentence("Promise 17: IndexOutOfBoundsException when there is no such register");
        for (int r : Wrong.REGISTERS) {
            Checks.due("register " + r, Wrong.INDEX, () -> Programs.run(NAMED, 9).register(r, false));
            Checks.due("short register " + r, Wrong.INDEX, () -> Programs.run(NAMED, 9).register(r, true));
        }
    }

    private static void outputsOfBoth() {
        Checks.sentence("Promise 18: What was put out k-th (from 0) in the run, by the program or (when brief) the short one");
        TracedCode x = Programs.run("SET 0 7; COPY 1 0; OUT 1; ADD 2 1 0; OUT 2; OUT 3", 6);
        int[] want = {7, 14, 0};
        for (int k = 0; k < 3; k++) {
            int given = k;
            Checks.due("output", want[k], () -> x.output(given, false));
            Checks.due("short output", want[k], () -> x.output(given, true));
        }
        x.set(0, 1);
        Checks.due("output of a run that is discarded", Wrong.STATE, () -> x.output(0, false));
    }

    private static void mostOutputs() {
        Checks.sentence("Promise 18: What was put out k-th, up to the last of 200 steps");
        String most = Programs.times(13, "OUT 0") + "ADD 0 0 1; SET 1 1; JUMP 5 0";
        TracedCode x = Programs.run(most, 210);
        // Twelve times 13, and 8 of the 200 steps are left for the thirteenth time.
        for (boolean brief : new boolean[] {false, true}) {
            Checks.due("the first", 0, () -> x.output(0, brief));
            Checks.due("the last of the first time", 0, () -> x.output(12, brief));
            Checks.due("the first of the third time", 1, () -> x.output(26, brief));
            Checks.due("the last", 11, () -> x.output(12 * 13 + 7, brief));
            Checks.due("one more", Wrong.INDEX, () -> x.output(12 * 13 + 8, brief));
        }
        TracedCode full = Programs.run(Programs.times(15, "OUT 0") + "JUMP 0 0", 200);
        Checks.due("as many as there can be", 0, () -> full.output(187, true));
        Checks.due("more than there can be", Wrong.INDEX, () -> full.output(188, true));
        Checks.due("as many as there can be", 0, () -> full.output(187, false));
        Checks.due("more than there can be", Wrong.INDEX, () -> full.output(188, false));
    }

    private static void outputsWithoutShortProgram() {
        Checks.sentence("Promise 18: IllegalStateException when there is no short program");
        for (boolean brief : new boolean[] {false, true}) {
            Checks.due("output of a new object", Wrong.STATE, () -> new TracedCode().output(0, brief));
            Checks.due("output before shorten", Wrong.STATE, () -> Programs.written("OUT 0").output(0, brief));
            Checks.due("no output before shorten", Wrong.STATE, () -> Programs.written("OUT 0").output(-1, brief));
        }
    }

    private static void outputsThatThereWereNot() {
        Checks.sentence("Promise 18: IndexOutOfBoundsException when there was no such");
        TracedCode x = Programs.shortened("OUT 0; SET 1 5; OUT 1; OUT 1");
        int[] counts = {0, 1, 1, 2, 3, 3};
        for (int count : counts) {
            for (int k : Wrong.besides(count)) {
                if (k < 0 || k >= count) {
                    Checks.due("output " + k + " of " + count, Wrong.INDEX, () -> x.output(k, false));
                    Checks.due("short output " + k + " of " + count, Wrong.INDEX, () -> x.output(k, true));
                }
            }
            x.step();
        }
        Checks.due("output without lines", Wrong.INDEX, () -> Programs.shortened("").output(0, false));
    }

    private static void valuesByTheProgram() {
        Checks.sentence("Promise 19: The value of a variable in the run by the program itself");
        TracedCode x = Programs.run("SET 0 7; NAME 1 0; SET 0 8; NAME 2 0; NAME 1 0", 3);
        Checks.due("still what r was", 7, () -> x.value(1));
        Programs.steps(x, 2);
        Checks.due("named anew", 8, () -> x.value(1));
        Checks.due("the other", 8, () -> x.value(2));
        TracedCode dead = Programs.run("SET 0 3; ADD 0 0 0; NAME 0 0", 3);
        Checks.due("a value that is not found", 6, () -> dead.value(0));
        Checks.due("a value at the end", 14, () -> Programs.run(NAMED, 20).value(2));
    }

    private static void valueWithoutShortProgram() {
        Checks.sentence("Promise 19: IllegalStateException when there is no short program");
        for (int v = 0; v < 3; v++) {
            int given = v;
            Checks.due("value of a new object", Wrong.STATE, () -> new TracedCode().value(given));
            Checks.due("value before shorten", Wrong.STATE, () -> Programs.written(NAMED).value(given));
        }
        Checks.due("value of nothing before shorten", Wrong.STATE, () -> new TracedCode().value(3));
    }

    private static void valueBeforeItsLine() {
        Checks.sentence("Promise 19: IllegalStateException when it has no value yet");
        TracedCode x = Programs.shortened("OUT 0; NAME 1 0; OUT 0");
        Checks.due("at first", Wrong.STATE, () -> x.value(1));
        x.step();
        Checks.due("at its line", Wrong.STATE, () -> x.value(1));
        x.step();
        Checks.due("behind its line", 0, () -> x.value(1));
        Checks.due("another", Wrong.STATE, () -> x.value(0));
        Checks.due("another", Wrong.STATE, () -> x.value(2));
        TracedCode over = Programs.run("JUMP 0 2; NAME 0 0; OUT 0", 3);
        Checks.due("when its line was jumped over", Wrong.STATE, () -> over.value(0));
        Checks.due("without lines", Wrong.STATE, () -> Programs.shortened("").value(0));
    }

    private static void valueOfNoVariable() {
        Checks.sentence("Promise 19: IndexOutOfBoundsException when there is no such variable");
        for (int v : Wrong.VARIABLES) {
            Checks.due("value of " + v, Wrong.INDEX, () -> Programs.shortened(NAMED).value(v));
            Checks.due("value of " + v, Wrong.INDEX, () -> Programs.run(NAMED, 9).value(v));
        }
    }

    private static void readInRegisters() {
        Checks.sentence("Promise 20: The value of a variable where it is found, in the short program's registers");
        TracedCode x = Programs.run(NAMED, 2);
        Checks.due("read in a register", 7, () -> x.read(0));
        Programs.steps(x, 7);
        Checks.due("read at the end", 7, () -> x.read(0));
        Checks.due("read in another register", 7, () -> x.read(1));
        Checks.due("read of a sum", 14, () -> x.read(2));
        // Register 0 of the program itself is another by then.
        Checks.due("the program's register", 3, () -> x.register(0, false));
    }

    private static void readAsConstants() {
        Checks.sentence("Promise 20: or as a constant");
        TracedCode x = Programs.run("SET 4 -5; NAME 2 4; SET 4 9; NAME 1 4", 4);
        Checks.due("read of a constant", -5, () -> x.read(2));
        Checks.due("read of another constant", 9, () -> x.read(1));
        Checks.due("where", TracedCode.CONSTANT, () -> x.where(4, 2));
        TracedCode least = Programs.run("SET 4 -2147483648; NAME 2 4; SET 4 2147483647; NAME 1 4", 4);
        Checks.due("read of the least int", Integer.MIN_VALUE, () -> least.read(2));
        Checks.due("read of the greatest int", Integer.MAX_VALUE, () -> least.read(1));
    }

    private static void readAtTheLineOfTheRun() {
        Checks.sentence("Promise 20: where it is found at the line of the run");
        TracedCode x = Programs.shortened("ADD 0 1 1; NAME 0 0; OUT 0; SET 0 4; OUT 0");
        String[] due = {Wrong.NOWHERE, Wrong.NOWHERE, "0", "0", Wrong.NOWHERE, Wrong.NOWHERE};
        for (String want : due) {
            Checks.due("read at " + x.line(), want, () -> x.read(0));
            x.step();
        }
        TracedCode loop = Programs.run("NAME 0 0; SET 1 1; ADD 0 0 1; OUT 0; JUMP 5 0", 200);
        Checks.due("line after 200 steps", 0, () -> loop.line());
        Checks.due("read after 200 steps at a line where it is unnamed", Wrong.NOWHERE, () -> loop.read(0));
        TracedCode named = Programs.run("OUT 0; SET 1 1; ADD 0 0 1; NAME 0 0; JUMP 5 1", 200);
        Checks.due("line after 200 steps", 4, () -> named.line());
        Checks.due("read after 200 steps", 50, () -> named.read(0));
    }

    private static void readWithoutShortProgram() {
        Checks.sentence("Promise 20: IllegalStateException when there is no short program");
        for (int v = 0; v < 3; v++) {
            int given = v;
            Checks.due("read of a new object", Wrong.STATE, () -> new TracedCode().read(given));
            Checks.due("read before shorten", Wrong.STATE, () -> Programs.written(NAMED).read(given));
        }
        Checks.due("read of nothing before shorten", Wrong.STATE, () -> new TracedCode().read(3));
    }

    private static void readOfNoVariable() {
        Checks.sentence("Promise 20: IndexOutOfBoundsException when there is no such variable");
        for (int v : Wrong.VARIABLES) {
            Checks.due("read of " + v, Wrong.INDEX, () -> Programs.shortened(NAMED).read(v));
            Checks.due("read of " + v, Wrong.INDEX, () -> Programs.run(NAMED, 9).read(v));
        }
    }

    private static void readOfWhatIsNotFound() {
        Checks.sentence("Promise 20: NoSuchElementException when it is not found");
        Checks.due("read without lines", Wrong.NOWHERE, () -> Programs.shortened("").read(0));
        Checks.due("read before its line", Wrong.NOWHERE, () -> Programs.run(NAMED, 1).read(0));
        Checks.due("read of what was left out", Wrong.NOWHERE, () -> Programs.run("ADD 0 1 1; NAME 0 0", 2).read(0));
        // Not by all ways: it has a value then, but is not found.
        TracedCode ways = Programs.run("JUMP 0 2; OUT 1; NAME 0 1; JUMP 2 1", 3);
        Checks.due("line", 1, () -> ways.line());
        Checks.due("a value by this way", 0, () -> ways.value(0));
        Checks.due("not found by all ways", Wrong.NOWHERE, () -> ways.read(0));
    }
}
