/** Promises 1 to 8, sentence by sentence: a new object, the six kinds of line, clear. */
public final class LinesTest {
    private static final String[] KINDS = {"SET 1 1", "COPY 1 2", "ADD 1 2 3", "OUT 1", "JUMP 1 16", "NAME 1 1"};

    public static void main(String[] args) {
        newObject();
        newObjectShortened();
        setLines();
        copyLines();
        addLines();
        outLines();
        jumpLines();
        nameLines();
        numbersOfMixedLines();
        setOfNoRegister();
        copyOfNoRegister();
        addOfNoRegister();
        outOfNoRegister();
        jumpByNoRegister();
        jumpToNoLine();
        nameOfNoVariable();
        nameOfNoRegister();
        sixteenLines();
        roomAfterRefusedLines();
        clearOfLines();
        clearOfNothing();
        clearOfSixteen();
        clearInARun();
        Checks.finish();
    }

    private static void newObject() {
        Checks.sentence("Promise 1: No lines");
        for (String kind : KINDS) {
            Checks.due("the first line of a new object: " + kind, 0, () -> Programs.append(new TracedCode(), kind));
        }
        TracedCode x = new TracedCode();
        Checks.due("kept of a new object", Wrong.STATE, () -> x.kept());
        Checks.due("line of a new object", Wrong.STATE, () -> x.line());
    }

    private static void newObjectShortened() {
        Checks.sentence("Promise 1: No lines, to be shortened too");
        TracedCode x = new TracedCode();
        Checks.due("shorten", 0, () -> x.shorten());
        Checks.due("kept", 0, () -> x.kept());
        Checks.due("part", Wrong.INDEX, () -> x.part(0, 0));
        Checks.due("line", 0, () -> x.line());
        Checks.due("step", -1, () -> x.step());
        Checks.due("point 1", Wrong.INDEX, () -> x.carriers(1, 0));
    }

    /** One line alone, as it is in the short program of a program that keeps it. */
    private static void lineOf(TracedCode x, int... want) {
        x.shorten();
        for (int i = 0; i < 4; i++) {
            int place = i;
            Checks.due("part " + i, want[i], () -> x.part(0, place));
        }
    }

    private static void setLines() {
        Checks.sentence("Promise 2: A new line SET r c; answers its number");
        int[] ints = {0, 1, -1, 6, 17, Integer.MAX_VALUE, Integer.MIN_VALUE};
        for (int r = 0; r < 6; r++) {
            for (int c : ints) {
                TracedCode x = new TracedCode();
                int given = r;
                Checks.due("set(" + r + ", " + c + ")", 0, () -> x.set(given, c));
                Checks.due("the line behind", 1, () -> x.out(given));
                lineOf(x, 0, r, c, 0);
            }
        }
    }

    private static void copyLines() {
        Checks.sentence("Promise 3: COPY r s");
        for (int r = 0; r < 6; r++) {
            for (int s = 0; s < 6; s++) {
                TracedCode x = new TracedCode();
                int to = r;
                int from = s;
                Checks.due("copy(" + r + ", " + s + ")", 0, () -> x.copy(to, from));
                x.set(from, 1);
                x.out(to);
                x.out(from);
                if (r != s) {
                    lineOf(x, 1, r, s, 0);
                }
            }
        }
    }

    private static void addLines() {
        Checks.sentence("Promise 4: ADD r s t");
        for (int r = 0; r < 6; r++) {
            for (int s = 0; s < 6; s++) {
                int to = r;
                int one = s;
                int other = 5 - r;
                TracedCode x = new TracedCode();
                Checks.due("add(" + r + ", " + s + ", " + other + ")", 0, () -> x.add(to, one, other));
                x.out(r);
                lineOf(x, 2, r, s, other);
            }
        }
    }

    private static void outLines() {
        Checks.sentence("Promise 5: OUT r");
        for (int r = 0; r < 6; r++) {
            TracedCode x = new TracedCode();
            int given = r;
            Checks.due("out(" + r + ")", 0, () -> x.out(given));
            lineOf(x, 3, r, 0, 0);
        }
    }

    private static void jumpLines() {
        Checks.sentence("Promise 6: JUMP r k, k being 0 .. 16");
        for (int r = 0; r < 6; r++) {
            for (int k = 0; k <= 16; k++) {
                TracedCode x = new TracedCode();
                int given = r;
                int target = k;
                Checks.due("jump(" + r + ", " + k + ")", 0, () -> x.jump(given, target));
                lineOf(x, 4, r, k, 0);
            }
        }
    }

    private static void nameLines() {
        Checks.sentence("Promise 7: NAME v r");
        for (int v = 0; v < 3; v++) {
            for (int r = 0; r < 6; r++) {
                TracedCode x = new TracedCode();
                int variable = v;
                int given = r;
                Checks.due("name(" + v + ", " + r + ")", 0, () -> x.name(variable, given));
                lineOf(x, 5, v, r, 0);
            }
        }
    }

    private static void numbersOfMixedLines() {
        Checks.sentence("Promise 2: answers its number; so for the others");
        TracedCode x = new TracedCode();
        Checks.due("set", 0, () -> x.set(5, Integer.MIN_VALUE));
        Checks.due("copy", 1, () -> x.copy(4, 5));
        Checks.due("add", 2, () -> x.add(3, 4, 5));
        Checks.due("out", 3, () -> x.out(3));
        Checks.due("jump", 4, () -> x.jump(5, 16));
        Checks.due("name", 5, () -> x.name(2, 5));
        x.shorten();
        Checks.same("the lines", "SET 5 -2147483648; .; ADD 3 5 5; OUT 3; JUMP 5 16; NAME 2 5", Programs.brief(x));
    }

    private static void setOfNoRegister() {
        Checks.sentence("Promise 2: IllegalArgumentException when r is no register");
        for (int wrong : Wrong.REGISTERS) {
            Checks.due("set(" + wrong + ", 1)", Wrong.ARGUMENT, () -> new TracedCode().set(wrong, 1));
        }
    }

    private static void copyOfNoRegister() {
        Checks.sentence("Promise 3: IllegalArgumentException when r or s is no register");
        for (int wrong : Wrong.REGISTERS) {
            Checks.due("copy(" + wrong + ", 1)", Wrong.ARGUMENT, () -> new TracedCode().copy(wrong, 1));
            Checks.due("copy(1, " + wrong + ")", Wrong.ARGUMENT, () -> new TracedCode().copy(1, wrong));
            Checks.due("copy, both " + wrong, Wrong.ARGUMENT, () -> new TracedCode().copy(wrong, wrong));
        }
    }

    private static void addOfNoRegister() {
        Checks.sentence("Promise 4: IllegalArgumentException when one of them is no register");
        for (int wrong : Wrong.REGISTERS) {
            Checks.due("add(" + wrong + ", 1, 2)", Wrong.ARGUMENT, () -> new TracedCode().add(wrong, 1, 2));
            Checks.due("add(1, " + wrong + ", 2)", Wrong.ARGUMENT, () -> new TracedCode().add(1, wrong, 2));
            Checks.due("add(1, 2, " + wrong + ")", Wrong.ARGUMENT, () -> new TracedCode().add(1, 2, wrong));
            Checks.due("add, all " + wrong, Wrong.ARGUMENT, () -> new TracedCode().add(wrong, wrong, wrong));
        }
    }

    private static void outOfNoRegister() {
        Checks.sentence("Promise 5: IllegalArgumentException when r is no register");
        for (int wrong : Wrong.REGISTERS) {
            Checks.due("out(" + wrong + ")", Wrong.ARGUMENT, () -> new TracedCode().out(wrong));
        }
    }

    private static void jumpByNoRegister() {
        Checks.sentence("Promise 6: IllegalArgumentException when r is no register");
        for (int wrong : Wrong.REGISTERS) {
            Checks.due("jump(" + wrong + ", 0)", Wrong.ARGUMENT, () -> new TracedCode().jump(wrong, 0));
            Checks.due("jump(" + wrong + ", 17)", Wrong.ARGUMENT, () -> new TracedCode().jump(wrong, 17));
        }
    }

    private static void jumpToNoLine() {
        Checks.sentence("Promise 6: IllegalArgumentException when k not 0 .. 16");
        for (int wrong : Wrong.TARGETS) {
            Checks.due("jump(1, " + wrong + ")", Wrong.ARGUMENT, () -> new TracedCode().jump(1, wrong));
        }
    }

    private static void nameOfNoVariable() {
        Checks.sentence("Promise 7: IllegalArgumentException when v is no variable");
        for (int wrong : Wrong.VARIABLES) {
            Checks.due("name(" + wrong + ", 1)", Wrong.ARGUMENT, () -> new TracedCode().name(wrong, 1));
            Checks.due("name(" + wrong + ", 6)", Wrong.ARGUMENT, () -> new TracedCode().name(wrong, 6));
        }
        for (int r = 3; r < 6; r++) {
            int wrong = r;
            Checks.due("name of a register's number", Wrong.ARGUMENT, () -> new TracedCode().name(wrong, 0));
        }
    }

    private static void nameOfNoRegister() {
        Checks.sentence("Promise 7: IllegalArgumentException when r is no register");
        for (int wrong : Wrong.REGISTERS) {
            Checks.due("name(1, " + wrong + ")", Wrong.ARGUMENT, () -> new TracedCode().name(1, wrong));
        }
    }

    private static void sixteenLines() {
        Checks.sentence("Promises 2 to 7: IllegalStateException when there are 16");
        for (String filling : KINDS) {
            for (String kind : KINDS) {
                TracedCode x = Programs.written(Programs.times(15, filling));
                Checks.due("the sixteenth line: " + kind, 15, () -> Programs.append(x, kind));
                Checks.due("a seventeenth line: " + kind, Wrong.STATE, () -> Programs.append(x, kind));
                Checks.due("another: " + filling, Wrong.STATE, () -> Programs.append(x, filling));
            }
        }
    }

    private static void roomAfterRefusedLines() {
        Checks.sentence("Promises 2 to 7: a refused line has no number");
        TracedCode x = new TracedCode();
        for (int line = 0; line < 16; line++) {
            Checks.due("a refused line", Wrong.ARGUMENT, () -> x.set(-1, 0));
            Checks.due("a refused line", Wrong.ARGUMENT, () -> x.jump(0, 17));
            Checks.due("line " + line, line, () -> x.out(0));
        }
    }

    private static void clearOfLines() {
        Checks.sentence("Promise 8: All lines go");
        TracedCode x = Programs.written("SET 0 4; OUT 0; NAME 1 0");
        x.clear();
        Checks.due("shorten", 0, () -> x.shorten());
        Checks.due("kept", 0, () -> x.kept());
        Checks.due("part", Wrong.INDEX, () -> x.part(0, 0));
        Checks.due("step", -1, () -> x.step());
        Checks.due("the first line anew", 0, () -> x.out(5));
        x.shorten();
        Checks.same("the lines anew", "OUT 5", Programs.brief(x));
    }

    private static void clearOfNothing() {
        Checks.sentence("Promise 8: All lines go, when there are none");
        TracedCode x = new TracedCode();
        x.clear();
        x.clear();
        Checks.due("kept", Wrong.STATE, () -> x.kept());
        Checks.due("the first line", 0, () -> x.out(5));
    }

    private static void clearOfSixteen() {
        Checks.sentence("Promise 8: All lines go, when there are 16");
        TracedCode x = Programs.written(Programs.times(16, "OUT 0"));
        x.clear();
        for (int line = 0; line < 16; line++) {
            Checks.due("line " + line + " anew", line, () -> x.set(1, 1));
        }
        Checks.due("a seventeenth line", Wrong.STATE, () -> x.set(1, 1));
        x.shorten();
        Checks.due("kept", 0, () -> x.kept());
    }

    private static void clearInARun() {
        Checks.sentence("Promise 8: All lines go, in a run");
        TracedCode x = Programs.run("SET 0 4; OUT 0; NAME 1 0", 3);
        x.clear();
        Checks.due("line", Wrong.STATE, () -> x.line());
        Checks.due("shorten", 0, () -> x.shorten());
        Checks.due("value", Wrong.STATE, () -> x.value(1));
        Checks.due("output", Wrong.INDEX, () -> x.output(0, false));
        Checks.due("register", 0, () -> x.register(0, false));
    }
}
