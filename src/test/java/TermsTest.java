/** The sentences of 'Terms' on programs and runs that name a boundary, each with a test of its own. */
public final class TermsTest {
    private static final int MOST = Integer.MAX_VALUE;
    private static final int LEAST = Integer.MIN_VALUE;
    private static final String[] KINDS = {"SET 1 1", "COPY 1 2", "ADD 1 2 3", "OUT 1", "JUMP 1 0", "NAME 1 1"};

    public static void main(String[] args) {
        callsOfAnObject();
        constants();
        upToSixteenLines();
        registersAndInts();
        variables();
        wrappingSums();
        sumsIntoTheirOwnRegisters();
        jumpsByNothingButZero();
        jumpsToEachLine();
        jumpsBeyondTheEnd();
        jumpsThatAreBeyondTheEndNoMore();
        namesOfWhatIsNow();
        theLineBehind();
        theEnd();
        emptyLines();
        registersAtFirst();
        valuesAtFirst();
        bothAtTheSameLine();
        twoHundredSteps();
        endAtTheLastStep();
        Checks.finish();
    }

    private static void bothRegisters(TracedCode x, int r, int want) {
        Checks.due("register " + r, want, () -> x.register(r, false));
        Checks.due("short register " + r, want, () -> x.register(r, true));
    }

    private static void callsOfAnObject() {
        Checks.sentence("An object is used for at most 512 calls after it has been made");
        TracedCode x = new TracedCode();
        for (int call = 1; call <= 255; call++) {
            x.clear();
            x.set(call % 6, call);
        }
        Checks.due("call 511", 1, () -> x.out(3));
        Checks.due("call 512", 0, () -> x.shorten());
    }

    private static void constants() {
        Checks.sentence("CONSTANT = 6: Found as a constant");
        Checks.same("NONE", -1, TracedCode.NONE);
        Checks.same("CONSTANT", 6, TracedCode.CONSTANT);
        Checks.due("where of a constant", 6, () -> Programs.shortened("SET 0 1; NAME 0 0").where(2, 0));
        Checks.due("where of nothing", -1, () -> Programs.shortened("SET 0 1; NAME 0 0").where(1, 0));
    }

    private static void upToSixteenLines() {
        Checks.sentence("THE PROGRAM has up to 16 LINES 0, 1, ..; n is how many");
        for (String kind : KINDS) {
            TracedCode x = new TracedCode();
            for (int line = 0; line < 16; line++) {
                Checks.due("line " + line + ", " + kind, line, () -> Programs.append(x, kind));
            }
            x.shorten();
            Checks.same("line 15 is there", false, Checks.answer(() -> x.part(15, 0)).startsWith("throws"));
            Checks.due("line 16", Wrong.INDEX, () -> x.part(16, 0));
            Checks.due("point 16", 63, () -> x.carriers(16, 5));
        }
        TracedCode last = Programs.run(Programs.times(14, "OUT 0") + "SET 2 9; OUT 2", 16);
        Checks.due("what the last line puts out", 9, () -> last.output(14, true));
        Checks.due("the end", 16, () -> last.line());
    }

    private static void registersAndInts() {
        Checks.sentence("There are REGISTERS 0 .. 5, with ints");
        int[] ints = {MOST, LEAST, -1, 0, 1, 65536};
        StringBuilder program = new StringBuilder();
        for (int r = 0; r < 6; r++) {
            program.append("SET " + r + " " + ints[r] + "; ");
        }
        TracedCode x = Programs.run(program + "OUT 0; OUT 1; OUT 2; OUT 3; OUT 4; OUT 5", 12);
        for (int r = 0; r < 6; r++) {
            int k = r;
            bothRegisters(x, r, ints[r]);
            Checks.due("output " + r, ints[r], () -> x.output(k, false));
            Checks.due("short output " + r, ints[r], () -> x.output(k, true));
        }
    }

    private static void variables() {
        Checks.sentence("VARIABLES 0 .. 2");
        TracedCode x = Programs.run("SET 0 10; NAME 0 0; SET 5 11; NAME 1 5; SET 3 12; NAME 2 3", 6);
        for (int v = 0; v < 3; v++) {
            int given = v;
            Checks.due("value", 10 + v, () -> x.value(given));
            Checks.due("read", 10 + v, () -> x.read(given));
        }
    }

    private static void wrappingSums() {
        Checks.sentence("ADD r s t: r becomes s + t (wrapping)");
        int[][] sums = {{MOST, 1, LEAST}, {1, MOST, LEAST}, {LEAST, -1, MOST}, {MOST, MOST, -2}, {LEAST, LEAST, 0},
            {MOST, LEAST, -1}, {LEAST, MOST, -1}, {MOST, 0, MOST}, {LEAST, 0, LEAST}, {-1, 1, 0}};
        for (int[] sum : sums) {
            TracedCode x = Programs.run("SET 1 " + sum[0] + "; SET 2 " + sum[1] + "; ADD 3 1 2; OUT 3; NAME 0 3", 5);
            bothRegisters(x, 3, sum[2]);
            Checks.due("output", sum[2], () -> x.output(0, false));
            Checks.due("short output", sum[2], () -> x.output(0, true));
            Checks.due("value", sum[2], () -> x.value(0));
            Checks.due("read", sum[2], () -> x.read(0));
        }
        TracedCode zero = Programs.shortened("SET 1 -2147483648; ADD 1 1 1; JUMP 1 5; OUT 1; OUT 2");
        Programs.steps(zero, 2);
        Checks.due("a jump by a sum that has wrapped to 0", 5, () -> zero.step());
        TracedCode doubled = Programs.run("SET 0 1; ADD 0 0 0; OUT 0; JUMP 5 1", 100);
        Checks.due("doubled 30 times", 1 << 30, () -> doubled.output(29, true));
        Checks.due("doubled 31 times", LEAST, () -> doubled.output(30, true));
        Checks.due("doubled 32 times", 0, () -> doubled.output(31, true));
    }

    private static void sumsIntoTheirOwnRegisters() {
        Checks.sentence("ADD r s t: r becomes s + t, where r is s, or t, or both");
        bothRegisters(Programs.run("SET 1 3; SET 2 4; ADD 1 1 2; OUT 1; OUT 2", 5), 1, 7);
        bothRegisters(Programs.run("SET 1 3; SET 2 4; ADD 2 1 2; OUT 1; OUT 2", 5), 2, 7);
        bothRegisters(Programs.run("SET 1 3; ADD 1 1 1; OUT 1", 3), 1, 6);
    }

    private static void jumpsByNothingButZero() {
        Checks.sentence("JUMP r k: if r is 0 the next line is k; otherwise the one behind");
        int[] others = {1, -1, MOST, LEAST, 65536};
        for (int c : others) {
            TracedCode x = Programs.run("SET 4 " + c + "; JUMP 4 4; OUT 4; OUT 4; OUT 4", 1);
            Checks.due("a jump by " + c, 2, () -> x.step());
        }
        TracedCode x = Programs.run("SET 4 0; JUMP 4 4; OUT 4; OUT 4; OUT 4", 1);
        Checks.due("a jump by 0", 4, () -> x.step());
    }

    private static void jumpsToEachLine() {
        Checks.sentence("the next line is k (0 .. 16)");
        String before = Programs.times(7, "OUT 0");
        for (int k = 0; k <= 16; k++) {
            TracedCode x = Programs.run(before + "JUMP 3 " + k + "; " + before + "OUT 0", 7);
            int want = k;
            Checks.due("a jump to " + k, want, () -> x.step());
            Checks.due("line", want, () -> x.line());
            int behind = k == 16 ? -1 : k == 7 ? 7 : k + 1;
            Checks.due("a step more", behind, () -> x.step());
        }
    }

    private static void jumpsBeyondTheEnd() {
        Checks.sentence("n when it is greater than n");
        for (int n = 1; n <= 16; n++) {
            String others = Programs.times(n - 1, "OUT 1");
            for (int k = n; k <= 16; k++) {
                jumpToTheEnd("JUMP 0 " + k + "; " + others, 0, n, k);
                jumpToTheEnd(others + "JUMP 0 " + k, n - 1, n, k);
            }
        }
    }

    private static void jumpToTheEnd(String program, int line, int n, int k) {
        TracedCode x = Programs.run(program, line);
        Checks.due("a jump to " + k + " of " + n, n, () -> x.step());
        Checks.due("its line", n, () -> x.line());
        Checks.due("a step at the end", -1, () -> x.step());
        Checks.due("its k", k, () -> x.part(line, 2));
    }

    private static void jumpsThatAreBeyondTheEndNoMore() {
        Checks.sentence("n when it is greater than n: n is how many lines there are, not were");
        TracedCode x = Programs.shortened("JUMP 0 3; OUT 1");
        Checks.due("of two lines", 2, () -> x.step());
        Programs.onto(x, "OUT 2; OUT 3; OUT 4");
        x.shorten();
        Checks.due("of five lines", 3, () -> x.step());
    }

    private static void namesOfWhatIsNow() {
        Checks.sentence("NAME v r: the variable v becomes what r is now");
        TracedCode x = Programs.run("SET 0 5; NAME 1 0; SET 0 6; OUT 0", 4);
        Checks.due("value when r is another", 5, () -> x.value(1));
        Checks.due("read when r is another", 5, () -> x.read(1));
        bothRegisters(x, 0, 6);
    }

    private static void theLineBehind() {
        Checks.sentence("Otherwise the next line is the one behind");
        TracedCode x = Programs.shortened("SET 0 1; COPY 1 0; ADD 2 0 1; OUT 2; JUMP 0 0; NAME 0 1");
        for (int line = 1; line <= 6; line++) {
            int want = line;
            Checks.due("step", want, () -> x.step());
        }
    }

    private static void theEnd() {
        Checks.sentence("Behind the last line, at n, it ends");
        for (int n = 1; n <= 16; n++) {
            TracedCode x = Programs.run(Programs.times(n, "OUT 0"), n - 1);
            int want = n;
            Checks.due("the step behind the last of " + n, want, () -> x.step());
            Checks.due("a step at the end", -1, () -> x.step());
            Checks.due("the line there", want, () -> x.line());
            Checks.due("outputs", Wrong.INDEX, () -> x.output(want, false));
        }
        TracedCode none = Programs.shortened("");
        Checks.due("the line of no lines", 0, () -> none.line());
        Checks.due("a step of no lines", -1, () -> none.step());
        Checks.due("the line of no lines then", 0, () -> none.line());
    }

    private static void emptyLines() {
        Checks.sentence("A line may be EMPTY: then it does nothing");
        TracedCode x = Programs.shortened("SET 1 5; COPY 2 3; ADD 4 1 1; SET 3 6; COPY 3 3");
        Checks.due("kept", 0, () -> x.kept());
        for (int line = 1; line <= 5; line++) {
            int want = line;
            Checks.due("a step over an EMPTY line", want, () -> x.step());
        }
        int[] whole = {0, 5, 0, 6, 10, 0};
        for (int r = 0; r < 6; r++) {
            int given = r;
            Checks.due("register " + r, whole[r], () -> x.register(given, false));
            Checks.due("short register " + r, 0, () -> x.register(given, true));
        }
        Checks.due("output", Wrong.INDEX, () -> x.output(0, true));
    }

    private static void registersAtFirst() {
        Checks.sentence("each with its own registers, all 0 at first");
        TracedCode x = Programs.shortened("SET 0 1; OUT 0; SET 1 1");
        for (int r = 0; r < 6; r++) {
            bothRegisters(x, r, 0);
        }
        Programs.steps(x, 3);
        Checks.due("the program's own", 1, () -> x.register(1, false));
        Checks.due("the short program's own", 0, () -> x.register(1, true));
    }

    private static void valuesAtFirst() {
        Checks.sentence("the variables having no values at first");
        TracedCode x = Programs.shortened("NAME 0 0; NAME 1 0; NAME 2 0");
        for (int v = 0; v < 3; v++) {
            int given = v;
            Checks.due("value of " + v + " at first", Wrong.STATE, () -> x.value(given));
            Checks.due("read of " + v + " at first", Wrong.NOWHERE, () -> x.read(given));
        }
        for (int v = 0; v < 3; v++) {
            int given = v;
            Checks.due("value of " + v + " before its line", Wrong.STATE, () -> x.value(given));
            x.step();
            Checks.due("value of " + v + " behind its line", 0, () -> x.value(given));
        }
    }

    /** A jump by a copy that was passed on goes the same way in both programs. */
    private static void bothAtTheSameLine() {
        Checks.sentence("(Both are always at the same line.)");
        TracedCode x = Programs.run("SET 0 2; SET 1 -1; COPY 2 0; JUMP 2 8; ADD 0 2 1; OUT 0; SET 3 0; JUMP 3 2; OUT 0", 200);
        Checks.due("line", 9, () -> x.line());
        int[] outputs = {1, 0, 0};
        for (int k = 0; k < 3; k++) {
            int given = k;
            Checks.due("output " + k, outputs[k], () -> x.output(given, false));
            Checks.due("short output " + k, outputs[k], () -> x.output(given, true));
        }
        Checks.due("output 3", Wrong.INDEX, () -> x.output(3, false));
        Checks.due("short output 3", Wrong.INDEX, () -> x.output(3, true));
    }

    private static void twoHundredSteps() {
        Checks.sentence("After 200 steps it does not go on");
        TracedCode x = Programs.run("ADD 0 0 1; SET 1 1; OUT 0; JUMP 5 0", 198);
        Checks.due("step 199", 3, () -> x.step());
        Checks.due("step 200", 0, () -> x.step());
        bothRegisters(x, 0, 49);
        for (int more = 1; more <= 5; more++) {
            Checks.due("step " + (200 + more), -1, () -> x.step());
            Checks.due("line", 0, () -> x.line());
        }
        bothRegisters(x, 0, 49);
        Checks.due("the last output", 49, () -> x.output(49, true));
        Checks.due("an output more", Wrong.INDEX, () -> x.output(50, true));
        Checks.due("an output more", Wrong.INDEX, () -> x.output(50, false));
        TracedCode itself = Programs.run("JUMP 0 0", 199);
        Checks.due("step 200 at a line", 0, () -> itself.step());
        Checks.due("step 201 at a line", -1, () -> itself.step());
    }

    private static void endAtTheLastStep() {
        Checks.sentence("After 200 steps it does not go on: an end at the 200th, and one step behind it");
        String loop = "SET 0 66; SET 1 -1; ADD 0 0 1; JUMP 0 5; JUMP 2 2; OUT 0";
        TracedCode end = Programs.run(loop, 199);
        Checks.due("step 200 to the end", 6, () -> end.step());
        Checks.due("step 201 at the end", -1, () -> end.step());
        Checks.due("line at the end", 6, () -> end.line());
        TracedCode cut = Programs.run(loop + "; OUT 1", 199);
        Checks.due("step 200 before the last line", 6, () -> cut.step());
        Checks.due("step 201 before the last line", -1, () -> cut.step());
        Checks.due("line before the last line", 6, () -> cut.line());
        Checks.due("what the last line does not put out", Wrong.INDEX, () -> cut.output(1, false));
    }
}
