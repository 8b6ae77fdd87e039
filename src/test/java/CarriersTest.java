/** Promises 12 and 13, and what 'Terms' says of carriers, sentence by sentence. */
public final class CarriersTest {
    private static final int NONE = TracedCode.NONE;
    private static final int CONSTANT = TracedCode.CONSTANT;

    /** All registers are written, each by a line that is kept, so that only constants are left. */
    private static final String ALL_WRITTEN =
            "NAME 0 0; SET 0 1; OUT 0; SET 1 1; OUT 1; SET 2 1; OUT 2; SET 3 1; OUT 3; SET 4 1; OUT 4; SET 5 1; OUT 5";

    public static void main(String[] args) {
        eachPoint();
        wayToTheEndAlone();
        allSixAtFirst();
        constantZeroAtFirst();
        unnamedAtFirst();
        backToTheStart();
        losing();
        losingNothingByEmpty();
        gaining();
        bySet();
        constantsOfSet();
        byCopy();
        byCopyOfAnother();
        constantsOfCopy();
        byAdd();
        variablesLoseAndGain();
        byName();
        carriersOfSeveralSteps();
        constantsOfSeveralSteps();
        unnamedByAny();
        leastCarrier();
        asItsConstant();
        notAtAll();
        whereWithoutShortProgram();
        whereAtNoPoint();
        whereOfNoVariable();
        sumsOfCarriers();
        carriersWithoutShortProgram();
        carriersAtNoPoint();
        carriersOfNoRegister();
        Checks.finish();
    }

    private static void carriers(String program, int point, int r, int want) {
        TracedCode x = Programs.shortened(program);
        Checks.due("carriers(" + point + ", " + r + ") of " + program, want, () -> x.carriers(point, r));
    }

    private static void where(String program, int point, int v, int want) {
        TracedCode x = Programs.shortened(program);
        Checks.due("where(" + point + ", " + v + ") of " + program, want, () -> x.where(point, v));
    }

    private static void read(String program, int steps, int v, int want) {
        TracedCode x = Programs.run(program, steps);
        Checks.due("read(" + v + ") after " + steps + " steps of " + program, want, () -> x.read(v));
        Checks.due("value(" + v + ") after " + steps + " steps of " + program, want, () -> x.value(v));
    }

    private static void eachPoint() {
        Checks.sentence("At each point p, 0 .. n (before line p; n is the end)");
        for (int n = 1; n <= 16; n++) {
            String program = Programs.times(n - 1, "OUT 0") + "NAME 2 5";
            where(program, n - 1, 2, NONE);
            where(program, n, 2, 0);
            String other = Programs.times(n - 1, "OUT 0") + "SET 0 1";
            carriers(other, n - 1, 0, 63);
            carriers(other, n, 0, 0);
        }
    }

    private static void wayToTheEndAlone() {
        Checks.sentence("WAYS go from line 0 (also if it is the end)");
        for (int r = 0; r < 6; r++) {
            carriers("", 0, r, 63);
        }
        for (int v = 0; v < 3; v++) {
            where("", 0, v, NONE);
        }
    }

    private static void allSixAtFirst() {
        Checks.sentence("At 0 every register has all six carriers");
        for (int r = 0; r < 6; r++) {
            carriers("OUT 0", 0, r, 63);
            carriers("SET 0 5; OUT 0", 0, r, 63);
            carriers("OUT 0", 1, r, 63);
        }
    }

    private static void constantZeroAtFirst() {
        Checks.sentence("At 0 every register has the constant 0");
        for (int r = 0; r < 6; r++) {
            String program = ALL_WRITTEN.replace("NAME 0 0", "NAME 0 " + r);
            where(program, 12, 0, CONSTANT);
            read(program, 12, 0, 0);
        }
        where("JUMP 1 2; SET 0 0; NAME 0 0", 3, 0, CONSTANT);
        where("JUMP 1 2; SET 0 1; NAME 0 0", 3, 0, NONE);
    }

    private static void unnamedAtFirst() {
        Checks.sentence("At 0 every variable is unnamed");
        for (int v = 0; v < 3; v++) {
            where("NAME " + v + " 0", 0, v, NONE);
            where("NAME " + v + " 0; JUMP 1 0", 0, v, NONE);
            where("OUT 0; OUT 1", 2, v, NONE);
        }
    }

    /** The start is one more way to point 0. */
    private static void backToTheStart() {
        Checks.sentence("When several steps lead to a point, carriers must be so by all of them: to 0 too");
        String program = "OUT 0; ADD 0 0 1; JUMP 2 0; NAME 0 3";
        carriers(program, 0, 0, 1);
        carriers(program, 0, 3, 63 - 1);
        carriers(program, 4, 3, 63 - 1);
        where(program, 4, 0, 1);
        where("OUT 1; NAME 0 1; JUMP 0 0", 1, 0, NONE);
        where("OUT 1; NAME 0 1; JUMP 0 0", 3, 0, 0);
        carriers("JUMP 0 0", 0, 0, 63);
        carriers("JUMP 0 0", 1, 0, 63);
        // The jump brings no carriers, since the SET is dead, and another constant, or the same.
        where("NAME 0 0; SET 0 1; JUMP 1 0", 1, 0, NONE);
        where("NAME 0 0; SET 0 0; JUMP 1 0", 1, 0, CONSTANT);
        carriers("SET 0 0; OUT 0; JUMP 1 0", 0, 1, 63 - 1);
    }

    private static void losing() {
        Checks.sentence("a register x's carriers lose r when line p of the short program writes r");
        for (int r = 0; r < 6; r++) {
            int other = (r + 1) % 6;
            carriers("SET " + r + " 0; OUT " + r, 1, other, 63 - (1 << r));
            carriers("ADD " + r + " 0 1; OUT " + r, 1, other, 63 - (1 << r));
        }
        // By a COPY of what is not among them.
        String program = "SET 0 1; COPY 3 0; ADD 0 0 0; OUT 0; OUT 3";
        carriers(program, 1, 5, 63 - 1);
        carriers(program, 2, 5, 63 - 1 - 8);
        where("ADD 1 2 3; NAME 0 1; OUT 1; SET 1 4; OUT 1", 2, 0, 1);
        where("ADD 1 2 3; NAME 0 1; OUT 1; SET 1 4; OUT 1", 4, 0, NONE);
    }

    private static void losingNothingByEmpty() {
        Checks.sentence("lose r when line p of the short program writes r: not when it is EMPTY");
        carriers("SET 2 5", 1, 0, 63);
        carriers("ADD 2 0 0", 1, 0, 63);
        carriers("COPY 2 0", 1, 0, 63);
        where("ADD 1 2 3; NAME 0 1; OUT 1; SET 1 4", 4, 0, 1);
    }

    private static void gaining() {
        Checks.sentence("but gain r (or keep it) when that is COPY r u and u was one of them");
        String gains = "SET 0 1; COPY 3 0; ADD 0 0 0; OUT 0; OUT 3";
        carriers(gains, 1, 0, 1);
        carriers(gains, 2, 0, 1 + 8);
        carriers(gains, 3, 0, 1);
        String keeps = "COPY 1 0; SET 0 1; OUT 0; OUT 1";
        carriers(keeps, 1, 5, 63);
        carriers(keeps, 2, 5, 63 - 1);
    }

    private static void bySet() {
        Checks.sentence("by SET r c: r alone, if the short line is not EMPTY, else none");
        for (int r = 0; r < 6; r++) {
            carriers("SET " + r + " 0; OUT " + r, 1, r, 1 << r);
            carriers("SET " + r + " 0", 1, r, 0);
        }
    }

    private static void constantsOfSet() {
        Checks.sentence("by SET r c: the constant c");
        int[] ints = {0, 1, -1, 6, Integer.MAX_VALUE, Integer.MIN_VALUE};
        for (int c : ints) {
            where("SET 2 " + c + "; NAME 0 2", 2, 0, CONSTANT);
            read("SET 2 " + c + "; NAME 0 2", 2, 0, c);
            read("SET 2 " + c + "; NAME 0 2; SET 2 5; NAME 1 2", 4, 0, c);
        }
    }

    private static void byCopy() {
        Checks.sentence("By COPY r s: those of s, with r in addition if the short line is not EMPTY");
        // The copy stays, since its source is written before it is read.
        String stays = "SET 0 1; COPY 3 0; ADD 0 0 0; OUT 0; OUT 3";
        carriers(stays, 2, 3, 1 + 8);
        carriers(stays, 3, 3, 8);
        // The copy goes, so that its register has the carriers of its source alone.
        String goes = "SET 0 1; COPY 3 0; OUT 3";
        carriers(goes, 2, 3, 1);
        carriers(goes, 2, 0, 1);
        // Of a source that is nowhere.
        carriers("SET 0 1; COPY 3 0", 2, 3, 0);
        carriers("COPY 1 1; OUT 1", 1, 1, 63);
        carriers("ADD 1 2 3; COPY 1 1; OUT 1", 2, 1, 2);
    }

    /** The short line is COPY 3 1 here, and gives 3 to all that were in 1. */
    private static void byCopyOfAnother() {
        Checks.sentence("By COPY r s: those of s (before the line, changed as said of x)");
        String program = "ADD 1 2 2; COPY 0 1; COPY 3 0; SET 0 9; SET 1 8; OUT 0; OUT 1; OUT 3";
        carriers(program, 2, 0, 2);
        carriers(program, 3, 0, 2 + 8);
        carriers(program, 3, 1, 2 + 8);
        carriers(program, 3, 3, 2 + 8);
        carriers(program, 3, 2, 63 - 2 - 8);
        carriers(program, 4, 0, 1);
        carriers(program, 5, 1, 2);
        carriers(program, 5, 3, 8);
    }

    private static void constantsOfCopy() {
        Checks.sentence("By COPY r s: the constant of s, if it has one");
        where("SET 0 1; COPY 3 0; NAME 1 3", 3, 1, CONSTANT);
        read("SET 0 1; COPY 3 0; NAME 1 3", 3, 1, 1);
        read("SET 0 5; COPY 3 0; SET 0 6; NAME 1 3; NAME 2 0", 5, 1, 5);
        where("SET 3 1; ADD 0 1 1; COPY 3 0; NAME 1 3", 4, 1, NONE);
    }

    private static void byAdd() {
        Checks.sentence("By ADD: r alone, if the short line is not EMPTY, else none; no constant");
        for (int r = 0; r < 6; r++) {
            carriers("ADD " + r + " 2 3; OUT " + r, 1, r, 1 << r);
            carriers("ADD " + r + " 2 3", 1, r, 0);
            where("SET " + r + " 1; ADD " + r + " 2 3; NAME 0 " + r, 3, 0, NONE);
        }
        where("SET 1 1; ADD 1 1 1; NAME 0 1", 3, 0, NONE);
    }

    private static void variablesLoseAndGain() {
        Checks.sentence("The carriers of variables lose and gain as those of registers");
        String program = "ADD 0 1 1; NAME 0 0; COPY 3 0; ADD 0 0 0; OUT 0; OUT 3; SET 3 1; OUT 3";
        where(program, 3, 0, 0);
        where(program, 4, 0, 3);
        where(program, 7, 0, NONE);
        String other = "ADD 0 1 1; ADD 4 1 0; COPY 3 0; NAME 1 3; COPY 3 4; ADD 4 4 0; OUT 4; OUT 3; ADD 0 0 0; OUT 0";
        carriers(other, 3, 0, 1);
        carriers(other, 5, 4, 8 + 16);
        carriers(other, 6, 3, 8);
        where(other, 6, 1, 0);
    }

    private static void byName() {
        Checks.sentence("NAME v r: v gets the carriers and the constant of r, and is not unnamed");
        where("NAME 2 5", 0, 2, NONE);
        where("NAME 2 5", 1, 2, 0);
        where("NAME 2 5", 1, 1, NONE);
        where("ADD 4 4 4; OUT 4; NAME 1 4; NAME 1 5", 3, 1, 4);
        where("ADD 4 4 4; OUT 4; NAME 1 4; NAME 1 5", 4, 1, 0);
        where("JUMP 0 2; NAME 0 1; NAME 0 1", 3, 0, 0);
        // By what is nowhere a variable that was found is found no more.
        where("NAME 0 0; ADD 1 2 2; NAME 0 1", 3, 0, NONE);
        where("ADD 1 2 2; COPY 0 1; NAME 0 0; ADD 1 1 1; OUT 1; OUT 0", 3, 0, 0);
        where("ADD 1 2 2; COPY 0 1; NAME 0 0; ADD 1 1 1; OUT 1; OUT 0", 4, 0, 0);
    }

    private static void carriersOfSeveralSteps() {
        Checks.sentence("When several steps lead to a point, carriers must be so by all of them");
        carriers("ADD 0 1 1; JUMP 2 3; COPY 3 0; OUT 3; OUT 0; ADD 0 0 3; OUT 0", 3, 0, 1);
        carriers("ADD 0 1 1; JUMP 2 3; ADD 0 2 2; OUT 0; NAME 1 0", 3, 0, 1);
        carriers("JUMP 2 2; SET 1 0; OUT 1", 2, 1, 2);
        carriers("JUMP 2 2; SET 1 0; OUT 1", 2, 0, 63 - 2);
        // The loop takes away what the way into it brings.
        String loop = "SET 0 3; SET 1 -1; COPY 2 0; NAME 0 2; JUMP 2 9; ADD 0 2 1; OUT 2; SET 3 0; JUMP 3 2; OUT 0";
        carriers(loop, 2, 2, 4);
        carriers(loop, 3, 2, 1 + 4);
        carriers(loop, 6, 2, 4);
        where(loop, 5, 0, 0);
        where(loop, 6, 0, 2);
        where(loop, 9, 0, 2);
        where(loop, 10, 0, 2);
        // What is lost before a jump is lost behind it, taken or not.
        String inside = "OUT 0; JUMP 1 3; OUT 1; ADD 0 0 1; JUMP 2 0";
        carriers(inside, 1, 3, 63 - 1);
        carriers(inside, 2, 3, 63 - 1);
        carriers(inside, 3, 3, 63 - 1);
        // A jump beyond the end leads to the end.
        carriers("JUMP 1 16; SET 0 0; OUT 0", 3, 1, 63 - 1);
        carriers("JUMP 1 16; SET 0 0; OUT 0", 3, 0, 1);
    }

    private static void constantsOfSeveralSteps() {
        Checks.sentence("a constant is there if it is so, the same one, by all");
        where("SET 0 5; NAME 0 0; JUMP 1 5; SET 0 5; NAME 0 0", 5, 0, CONSTANT);
        where("SET 0 5; NAME 0 0; JUMP 1 5; SET 0 6; NAME 0 0", 5, 0, NONE);
        where("SET 0 5; NAME 0 0; JUMP 1 5; ADD 0 2 2; NAME 0 0", 5, 0, NONE);
        where("ADD 0 2 2; NAME 0 0; JUMP 1 5; SET 0 5; NAME 0 0", 5, 0, NONE);
        where("SET 0 5; JUMP 1 3; SET 0 5; NAME 0 0", 4, 0, CONSTANT);
        where("SET 0 5; JUMP 1 3; SET 0 6; NAME 0 0", 4, 0, NONE);
        where("SET 0 5; JUMP 1 3; SET 0 6; NAME 0 0; OUT 0", 4, 0, 0);
        where("SET 0 2147483647; JUMP 1 3; SET 0 -2147483648; NAME 0 0", 4, 0, NONE);
        where("SET 0 5; NAME 0 0; ADD 1 1 1; JUMP 1 2", 4, 0, CONSTANT);
        // A loop that sets another one, seen before it only by the jump back.
        where("SET 0 5; NAME 0 0; SET 0 6; JUMP 1 1", 2, 0, NONE);
        where("SET 0 5; NAME 0 0; SET 0 5; JUMP 1 1", 2, 0, CONSTANT);
    }

    private static void unnamedByAny() {
        Checks.sentence("a variable is unnamed if it is so by any of them, and then has none");
        where("JUMP 0 2; NAME 0 1; OUT 1", 2, 0, NONE);
        where("JUMP 0 2; NAME 0 1; OUT 1", 3, 0, NONE);
        where("NAME 0 1; JUMP 0 3; NAME 0 2; OUT 1", 3, 0, 0);
        where("NAME 1 0; JUMP 1 16", 2, 1, 0);
        where("JUMP 1 16; NAME 1 0", 2, 1, NONE);
        where("JUMP 1 16; SET 0 5; NAME 1 0", 3, 1, NONE);
        // A later copy gives no carrier to it, and a later line does not name it.
        where("JUMP 5 2; NAME 0 1; COPY 2 1; ADD 1 1 1; OUT 1; OUT 2", 3, 0, NONE);
        String loop = "SET 0 3; SET 1 -1; COPY 2 0; NAME 0 2; JUMP 2 9; ADD 0 2 1; OUT 2; SET 3 0; JUMP 3 2; OUT 0";
        where(loop, 3, 0, NONE);
    }

    private static void leastCarrier() {
        Checks.sentence("A variable is FOUND at a reached point in its least carrier");
        for (int r = 0; r < 6; r++) {
            where("ADD " + r + " 1 1; OUT " + r + "; NAME 0 " + r, 3, 0, r);
        }
        for (int gone = 0; gone < 5; gone++) {
            where(ALL_WRITTEN, 2 + 2 * gone, 0, gone + 1);
        }
        // A register before its constant.
        where("SET 5 4; OUT 5; NAME 0 5", 3, 0, 5);
    }

    private static void asItsConstant() {
        Checks.sentence("or if it has none, as its constant");
        where(ALL_WRITTEN, 10, 0, 5);
        where(ALL_WRITTEN, 11, 0, 5);
        where(ALL_WRITTEN, 12, 0, CONSTANT);
        where(ALL_WRITTEN, 13, 0, CONSTANT);
        where("SET 0 3; NAME 1 0; ADD 0 0 0; OUT 0", 2, 1, 0);
        where("SET 0 3; NAME 1 0; ADD 0 0 0; OUT 0", 3, 1, CONSTANT);
    }

    private static void notAtAll() {
        Checks.sentence("when it is unnamed, or has neither, not at all");
        where("OUT 0", 1, 0, NONE);
        where("ADD 0 1 1; NAME 0 0", 2, 0, NONE);
        where("ADD 0 1 1; NAME 0 0; OUT 0; ADD 0 0 0; OUT 0", 4, 0, NONE);
        Checks.due("read when unnamed", Wrong.NOWHERE, () -> Programs.run("OUT 0", 1).read(0));
        Checks.due("read with neither", Wrong.NOWHERE, () -> Programs.run("ADD 0 1 1; NAME 0 0", 2).read(0));
    }

    private static void whereWithoutShortProgram() {
        Checks.sentence("Promise 12: IllegalStateException when there is no short program");
        Checks.due("where of a new object", Wrong.STATE, () -> new TracedCode().where(0, 0));
        Checks.due("where before shorten", Wrong.STATE, () -> Programs.written("NAME 0 0").where(0, 0));
        Checks.due("where of nothing before shorten", Wrong.STATE, () -> Programs.written("NAME 0 0").where(-1, 3));
    }

    private static void whereAtNoPoint() {
        Checks.sentence("Promise 12: IndexOutOfBoundsException when there is no such point");
        for (int n = 0; n <= 16; n++) {
            TracedCode x = Programs.shortened(Programs.times(n, "NAME 0 0"));
            int end = n;
            Checks.due("where at the end of " + n, n == 0 ? NONE : 0, () -> x.where(end, 0));
            for (int point : Wrong.besides(n + 1)) {
                if (point < 0 || point > n) {
                    Checks.due("where at " + point + " of " + n, Wrong.INDEX, () -> x.where(point, 0));
                }
            }
        }
    }

    private static void whereOfNoVariable() {
        Checks.sentence("Promise 12: IndexOutOfBoundsException when there is no such variable");
        TracedCode x = Programs.shortened("NAME 0 0; NAME 1 1; NAME 2 2");
        for (int v = 0; v < 3; v++) {
            int given = v;
            Checks.due("where of " + v, 0, () -> x.where(3, given));
        }
        for (int v : Wrong.VARIABLES) {
            Checks.due("where of " + v, Wrong.INDEX, () -> x.where(0, v));
            Checks.due("where of " + v, Wrong.INDEX, () -> x.where(3, v));
        }
    }

    private static void sumsOfCarriers() {
        Checks.sentence("Promise 13: The carriers of a register at a reached point, as the sum of 2^r");
        // Without the constant, which is no register.
        carriers("SET 0 5; OUT 0", 1, 0, 1);
        carriers("SET 0 5", 1, 0, 0);
        carriers("OUT 0", 0, 0, 1 + 2 + 4 + 8 + 16 + 32);
        carriers("SET 0 5; OUT 0; SET 5 6; OUT 5", 4, 2, 2 + 4 + 8 + 16);
    }

    private static void carriersWithoutShortProgram() {
        Checks.sentence("Promise 13: IllegalStateException when there is no short program");
        Checks.due("carriers of a new object", Wrong.STATE, () -> new TracedCode().carriers(0, 0));
        Checks.due("carriers before shorten", Wrong.STATE, () -> Programs.written("OUT 0").carriers(0, 0));
        Checks.due("carriers of nothing before shorten", Wrong.STATE, () -> Programs.written("OUT 0").carriers(-1, 6));
    }

    private static void carriersAtNoPoint() {
        Checks.sentence("Promise 13: IndexOutOfBoundsException when there is no such point");
        for (int n = 0; n <= 16; n++) {
            TracedCode x = Programs.shortened(Programs.times(n, "OUT 0"));
            int end = n;
            Checks.due("carriers at the end of " + n, 63, () -> x.carriers(end, 0));
            for (int point : Wrong.besides(n + 1)) {
                if (point < 0 || point > n) {
                    Checks.due("carriers at " + point + " of " + n, Wrong.INDEX, () -> x.carriers(point, 0));
                }
            }
        }
    }

    private static void carriersOfNoRegister() {
        Checks.sentence("Promise 13: IndexOutOfBoundsException when there is no such register");
        TracedCode x = Programs.shortened("NAME 0 0; OUT 1");
        for (int r = 0; r < 6; r++) {
            int given = r;
            Checks.due("carriers of " + r, 63, () -> x.carriers(2, given));
        }
        for (int r : Wrong.REGISTERS) {
            Checks.due("carriers of " + r, Wrong.INDEX, () -> x.carriers(0, r));
            Checks.due("carriers of " + r, Wrong.INDEX, () -> x.carriers(2, r));
        }
    }
}
