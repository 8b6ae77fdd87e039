/** Promises 1 to 8: a new object, the six kinds of line, clear. */
public final class LinesTest {
    private static final String STATE = "throws.IllegalStateException";
    private static final String ARGUMENT = "throws.IllegalArgumentException";
    private static final int[] NO_REGISTERS = {-1, 6, 7, Integer.MIN_VALUE, Integer.MAX_VALUE};
    private static final int[] NO_VARIABLES = {-1, 3, 4, Integer.MIN_VALUE, Integer.MAX_VALUE};
    private static final int[] NO_TARGETS = {-1, 17, Integer.MIN_VALUE, Integer.MAX_VALUE};

    public static void main(String[] args) {
        newObject();
        numbersOfLines();
        edgesThatAreTaken();
        wrongRegisters();
        wrongVariablesAndTargets();
        sixteenLines();
        addingDiscards();
        refusedLinesChangeNothing();
        clearing();
        Checks.finish();
    }

    private static void newObject() {
        TracedCode x = new TracedCode();
        Checks.due("kept of a new object", STATE, () -> x.kept());
        Checks.due("first line of a new object", 0, () -> x.out(0));
        TracedCode y = new TracedCode();
        Checks.due("shorten without lines", 0, () -> y.shorten());
        Checks.due("kept without lines", 0, () -> y.kept());
        Checks.due("part without lines", "throws.IndexOutOfBoundsException", () -> y.part(0, 0));
    }

    private static void numbersOfLines() {
        TracedCode x = new TracedCode();
        Checks.due("set", 0, () -> x.set(5, Integer.MIN_VALUE));
        Checks.due("copy", 1, () -> x.copy(4, 5));
        Checks.due("add", 2, () -> x.add(3, 4, 5));
        Checks.due("out", 3, () -> x.out(3));
        Checks.due("jump", 4, () -> x.jump(5, 16));
        Checks.due("name", 5, () -> x.name(2, 5));
        x.shorten();
        Checks.same("the lines", "SET 5 -2147483648; .; ADD 3 5 5; OUT 3; JUMP 5 16; NAME 2 5", Programs.brief(x));
    }

    private static void edgesThatAreTaken() {
        for (int r = 0; r < 6; r++) {
            int given = r;
            Checks.due("set", 0, () -> new TracedCode().set(given, -1));
            Checks.due("copy", 0, () -> new TracedCode().copy(given, 5 - given));
            Checks.due("add", 0, () -> new TracedCode().add(given, 5 - given, given));
            Checks.due("out", 0, () -> new TracedCode().out(given));
            Checks.due("jump", 0, () -> new TracedCode().jump(given, 0));
            Checks.due("name", 0, () -> new TracedCode().name(given / 2, given));
        }
        for (int k = 0; k <= 16; k++) {
            int given = k;
            Checks.due("jump to " + k, 0, () -> new TracedCode().jump(0, given));
        }
    }

    private static void wrongRegisters() {
        for (int wrong : NO_REGISTERS) {
            TracedCode x = new TracedCode();
            Checks.due("set of " + wrong, ARGUMENT, () -> x.set(wrong, 1));
            Checks.due("copy to " + wrong, ARGUMENT, () -> x.copy(wrong, 1));
            Checks.due("copy of " + wrong, ARGUMENT, () -> x.copy(1, wrong));
            Checks.due("add to " + wrong, ARGUMENT, () -> x.add(wrong, 1, 1));
            Checks.due("add of " + wrong, ARGUMENT, () -> x.add(1, wrong, 1));
            Checks.due("add and " + wrong, ARGUMENT, () -> x.add(1, 1, wrong));
            Checks.due("out of " + wrong, ARGUMENT, () -> x.out(wrong));
            Checks.due("jump by " + wrong, ARGUMENT, () -> x.jump(wrong, 1));
            Checks.due("name of " + wrong, ARGUMENT, () -> x.name(1, wrong));
            Checks.due("first line after refused ones", 0, () -> x.set(0, 0));
        }
    }

    private static void wrongVariablesAndTargets() {
        TracedCode x = new TracedCode();
        for (int wrong : NO_VARIABLES) {
            Checks.due("name " + wrong, ARGUMENT, () -> x.name(wrong, 0));
        }
        for (int wrong : NO_TARGETS) {
            Checks.due("jump to " + wrong, ARGUMENT, () -> x.jump(0, wrong));
        }
        Checks.due("first line after refused ones", 0, () -> x.set(0, 0));
    }

    private static void sixteenLines() {
        TracedCode x = new TracedCode();
        for (int line = 0; line < 16; line++) {
            Checks.due("line", line, () -> x.out(0));
        }
        Checks.due("set", STATE, () -> x.set(0, 0));
        Checks.due("copy", STATE, () -> x.copy(0, 0));
        Checks.due("add", STATE, () -> x.add(0, 0, 0));
        Checks.due("out", STATE, () -> x.out(0));
        Checks.due("jump", STATE, () -> x.jump(0, 0));
        Checks.due("name", STATE, () -> x.name(0, 0));
        Checks.due("set of no register", ARGUMENT, () -> x.set(6, 0));
        Checks.due("copy of no register", ARGUMENT, () -> x.copy(0, 6));
        Checks.due("add of no register", ARGUMENT, () -> x.add(0, 0, 6));
        Checks.due("out of no register", ARGUMENT, () -> x.out(6));
        Checks.due("jump to no line", ARGUMENT, () -> x.jump(0, 17));
        Checks.due("name of no variable", ARGUMENT, () -> x.name(3, 0));
        x.shorten();
        Checks.due("kept", 16, () -> x.kept());
    }

    private static void addingDiscards() {
        String[] lines = {"SET 0 1", "COPY 0 1", "ADD 0 1 2", "OUT 0", "JUMP 0 0", "NAME 0 0"};
        for (String line : lines) {
            TracedCode x = Programs.shortened("OUT 0");
            Programs.append(x, line);
            Checks.due("kept after " + line, STATE, () -> x.kept());
            Checks.due("part after " + line, STATE, () -> x.part(0, 0));
            Checks.due("where after " + line, STATE, () -> x.where(0, 0));
            Checks.due("carriers after " + line, STATE, () -> x.carriers(0, 0));
            Checks.due("step after " + line, STATE, () -> x.step());
            x.shorten();
            Checks.due("part 1 after " + line, "OUT", () -> Programs.brief(x).substring(0, 3));
        }
    }

    private static void refusedLinesChangeNothing() {
        TracedCode x = Programs.shortened("SET 0 4; OUT 0; NAME 1 0");
        Programs.steps(x, 3);
        Checks.due("set", ARGUMENT, () -> x.set(6, 0));
        Checks.due("name", ARGUMENT, () -> x.name(3, 0));
        Checks.due("line", 3, () -> x.line());
        Checks.due("kept", 3, () -> x.kept());
        Checks.due("value", 4, () -> x.value(1));
        TracedCode full = new TracedCode();
        for (int line = 0; line < 16; line++) {
            full.out(0);
        }
        full.shorten();
        full.step();
        Checks.due("a seventeenth line", STATE, () -> full.out(0));
        Checks.due("line", 1, () -> full.line());
        Checks.due("kept", 16, () -> full.kept());
    }

    private static void clearing() {
        TracedCode x = Programs.shortened("SET 0 4; OUT 0; NAME 1 0");
        x.clear();
        Checks.due("kept after clear", STATE, () -> x.kept());
        Checks.due("line after clear", STATE, () -> x.line());
        Checks.due("shorten after clear", 0, () -> x.shorten());
        Checks.due("kept after both", 0, () -> x.kept());
        Checks.due("step after both", -1, () -> x.step());
        Checks.due("value after both", STATE, () -> x.value(1));
        Checks.due("the first line anew", 0, () -> x.out(5));
        x.shorten();
        Checks.same("the lines anew", "OUT 5", Programs.brief(x));
        TracedCode y = new TracedCode();
        y.clear();
        Checks.due("the first line of a cleared new object", 0, () -> y.out(5));
        for (int line = 1; line < 16; line++) {
            y.out(0);
        }
        y.clear();
        y.clear();
        Checks.due("the first line behind sixteen", 0, () -> y.set(1, 1));
    }
}
