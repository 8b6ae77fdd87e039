/** Promises 12 and 13: where, carriers. */
public final class CarriersTest {
    private static final String STATE = "throws.IllegalStateException";
    private static final String INDEX = "throws.IndexOutOfBoundsException";

    public static void main(String[] args) {
        atTheStart();
        bySet();
        byCopy();
        byAdd();
        byName();
        losingAndGaining();
        severalSteps();
        constantsOfSeveralSteps();
        unnamed();
        backToTheStart();
        wrongInputs();
        Checks.finish();
    }

    private static void carriers(String program, int point, int r, int want) {
        TracedCode x = Programs.shortened(program);
        Checks.due("carriers(" + point + ", " + r + ") of " + program, want, () -> x.carriers(point, r));
    }

    private static void where(String program, int point, int v, int want) {
        TracedCode x = Programs.shortened(program);
        Checks.due("where(" + point + ", " + v + ") of " + program, want, () -> x.where(point, v));
    }

    private static void atTheStart() {
        for (int r = 0; r < 6; r++) {
            carriers("", 0, r, 63);
            carriers("OUT 0", 0, r, 63);
            carriers("OUT 0", 1, r, 63);
        }
        for (int v = 0; v < 3; v++) {
            where("", 0, v, TracedCode.NONE);
            where("OUT 0; OUT 1", 2, v, TracedCode.NONE);
        }
    }

    private static void bySet() {
        carriers("SET 2 0; OUT 2", 1, 2, 4);
        carriers("SET 2 0; OUT 2", 1, 0, 63 - 4);
        carriers("SET 2 5", 1, 2, 0);
        carriers("SET 2 5", 1, 0, 63);
        where("SET 2 5; NAME 0 2", 2, 0, TracedCode.CONSTANT);
        where("SET 2 5; NAME 0 2; OUT 2", 2, 0, 2);
    }

    private static void byCopy() {
        // The copy stays, since its source is written before it is read.
        String stays = "SET 0 1; COPY 3 0; ADD 0 0 0; OUT 0; OUT 3";
        carriers(stays, 2, 3, 1 + 8);
        carriers(stays, 2, 0, 1 + 8);
        carriers(stays, 3, 3, 8);
        carriers(stays, 3, 0, 1);
        // The copy goes, so that its register has the carriers of its source alone.
        String goes = "SET 0 1; COPY 3 0; OUT 3";
        carriers(goes, 2, 3, 1);
        carriers(goes, 2, 0, 1);
        where("SET 0 1; COPY 3 0; NAME 1 3; OUT 3", 3, 1, 0);
        // The constant goes along with the copy.
        where("SET 0 1; COPY 3 0; NAME 1 3", 3, 1, TracedCode.CONSTANT);
        carriers("COPY 1 1; OUT 1", 1, 1, 63);
        // By an EMPTY copy of itself a register keeps what it has.
        carriers("ADD 1 2 3; COPY 1 1; OUT 1", 2, 1, 2);
    }

    private static void byAdd() {
        carriers("ADD 1 2 3; OUT 1", 1, 1, 2);
        carriers("ADD 1 2 3; OUT 1", 1, 4, 63 - 2);
        carriers("ADD 1 2 3", 1, 1, 0);
        where("SET 1 1; ADD 1 1 1; NAME 0 1", 3, 0, TracedCode.NONE);
        where("ADD 1 2 3; NAME 0 1; OUT 1; SET 1 4; OUT 1", 2, 0, 1);
        where("ADD 1 2 3; NAME 0 1; OUT 1; SET 1 4; OUT 1", 4, 0, TracedCode.NONE);
        where("ADD 1 2 3; NAME 0 1; OUT 1; SET 1 4; OUT 1", 5, 0, TracedCode.NONE);
        where("ADD 1 2 3; NAME 0 1; OUT 1; SET 1 4", 4, 0, 1);
    }

    private static void byName() {
        where("NAME 2 5", 0, 2, TracedCode.NONE);
        where("NAME 2 5", 1, 2, 0);
        where("NAME 2 5", 1, 1, TracedCode.NONE);
        where("ADD 4 4 4; OUT 4; NAME 1 4; NAME 1 5", 3, 1, 4);
        where("ADD 4 4 4; OUT 4; NAME 1 4; NAME 1 5", 4, 1, 0);
        // By a constant, when every register is written; the value of r, not of the short line.
        where("SET 0 3; NAME 1 0; ADD 0 0 0; OUT 0", 3, 1, TracedCode.CONSTANT);
        where("ADD 1 2 2; COPY 0 1; NAME 0 0; ADD 1 1 1; OUT 1; OUT 0", 3, 0, 0);
        where("ADD 1 2 2; COPY 0 1; NAME 0 0; ADD 1 1 1; OUT 1; OUT 0", 4, 0, 0);
    }

    private static void losingAndGaining() {
        // A copy gives a further carrier to all that had its source, variables too.
        String program = "ADD 0 1 1; NAME 0 0; COPY 3 0; ADD 0 0 0; OUT 0; OUT 3; SET 3 1; OUT 3";
        carriers(program, 3, 0, 1 + 8);
        where(program, 3, 0, 0);
        where(program, 4, 0, 3);
        where(program, 7, 0, TracedCode.NONE);
        // A copy of another register takes its place among the carriers.
        String other = "ADD 0 1 1; ADD 4 1 0; COPY 3 0; NAME 1 3; COPY 3 4; ADD 4 4 0; OUT 4; OUT 3; ADD 0 0 0; OUT 0";
        carriers(other, 3, 0, 1);
        carriers(other, 5, 4, 8 + 16);
        carriers(other, 6, 3, 8);
        // A register that keeps what another wrote there: COPY r u when both carry it.
        carriers("COPY 1 0; SET 0 1; OUT 0; OUT 1", 1, 5, 63);
        carriers("COPY 1 0; SET 0 1; OUT 0; OUT 1", 2, 5, 62);
    }

    private static void severalSteps() {
        String program = "ADD 0 1 1; JUMP 2 3; COPY 3 0; OUT 3; OUT 0; ADD 0 0 3; OUT 0";
        carriers(program, 3, 0, 1);
        carriers("ADD 0 1 1; JUMP 2 3; ADD 0 2 2; OUT 0; NAME 1 0", 3, 0, 1);
        carriers("JUMP 2 2; SET 1 0; OUT 1", 2, 1, 2);
        carriers("JUMP 2 2; SET 1 0; OUT 1", 2, 0, 63 - 2);
        // The loop takes away what the way into it brings.
        String loop = "SET 0 3; SET 1 -1; COPY 2 0; NAME 0 2; JUMP 2 9; ADD 0 2 1; OUT 2; SET 3 0; JUMP 3 2; OUT 0";
        carriers(loop, 2, 2, 4);
        carriers(loop, 3, 2, 1 + 4);
        carriers(loop, 6, 2, 4);
        where(loop, 5, 0, 0);
        where(loop, 6, 0, 2);
        where(loop, 3, 0, TracedCode.NONE);
        where(loop, 9, 0, 2);
        where(loop, 10, 0, 2);
        // What is lost before a jump is lost behind it, taken or not.
        String inside = "OUT 0; JUMP 1 3; OUT 1; ADD 0 0 1; JUMP 2 0";
        carriers(inside, 1, 3, 63 - 1);
        carriers(inside, 2, 3, 63 - 1);
        carriers(inside, 3, 3, 63 - 1);
    }

    private static void constantsOfSeveralSteps() {
        where("SET 0 5; NAME 0 0; JUMP 1 4; SET 0 5; NAME 0 0", 5, 0, TracedCode.CONSTANT);
        where("SET 0 5; NAME 0 0; JUMP 1 5; SET 0 5; NAME 0 0", 5, 0, TracedCode.CONSTANT);
        where("SET 0 5; NAME 0 0; JUMP 1 5; SET 0 6; NAME 0 0", 5, 0, TracedCode.NONE);
        where("SET 0 5; JUMP 1 3; SET 0 5; NAME 0 0", 4, 0, TracedCode.CONSTANT);
        where("SET 0 5; JUMP 1 3; SET 0 6; NAME 0 0", 4, 0, TracedCode.NONE);
        where("SET 0 5; JUMP 1 3; SET 0 6; NAME 0 0; OUT 0", 4, 0, 0);
        // A register is 0 at first.
        where("JUMP 1 2; SET 0 0; NAME 0 0", 3, 0, TracedCode.CONSTANT);
        where("JUMP 1 2; SET 0 1; NAME 0 0", 3, 0, TracedCode.NONE);
        String all = "NAME 0 0; SET 0 1; OUT 0; SET 1 1; OUT 1; SET 2 1; OUT 2; SET 3 1; OUT 3; SET 4 1; OUT 4; SET 5 1; OUT 5";
        where(all, 1, 0, 0);
        where(all, 2, 0, 1);
        where(all, 10, 0, 5);
        where(all, 12, 0, TracedCode.CONSTANT);
        where("SET 0 5; NAME 0 0; ADD 1 1 1; JUMP 1 2", 4, 0, TracedCode.CONSTANT);
    }

    private static void unnamed() {
        where("JUMP 0 2; NAME 0 1; OUT 1", 2, 0, TracedCode.NONE);
        where("JUMP 0 2; NAME 0 1; OUT 1", 3, 0, TracedCode.NONE);
        where("NAME 0 1; JUMP 0 3; NAME 0 2; OUT 1", 3, 0, 0);
        where("OUT 1; NAME 0 1; JUMP 0 0", 1, 0, TracedCode.NONE);
        where("OUT 1; NAME 0 1; JUMP 0 0", 3, 0, 0);
        where("JUMP 0 2; NAME 0 1; NAME 0 1", 3, 0, 0);
        // A later copy gives no carrier to a variable that is unnamed by one way.
        where("JUMP 5 2; NAME 0 1; COPY 2 1; ADD 1 1 1; OUT 1; OUT 2", 3, 0, TracedCode.NONE);
        where("NAME 1 0; JUMP 1 16", 2, 1, 0);
        where("JUMP 1 16; NAME 1 0", 2, 1, TracedCode.NONE);
    }

    private static void backToTheStart() {
        String program = "OUT 0; ADD 0 0 1; JUMP 2 0; NAME 0 3";
        carriers(program, 0, 0, 1);
        carriers(program, 0, 3, 63 - 1);
        carriers(program, 4, 3, 63 - 1);
        where(program, 4, 0, 1);
    }

    private static void wrongInputs() {
        TracedCode x = Programs.written("NAME 0 0; OUT 1");
        Checks.due("where before shorten", STATE, () -> x.where(0, 0));
        Checks.due("where of nothing before shorten", STATE, () -> x.where(-1, 3));
        Checks.due("carriers before shorten", STATE, () -> x.carriers(0, 0));
        Checks.due("carriers of nothing before shorten", STATE, () -> x.carriers(-1, 6));
        x.shorten();
        Checks.due("where at the end", 0, () -> x.where(2, 0));
        Checks.due("carriers at the end", 63, () -> x.carriers(2, 0));
        int[] points = {-1, 3, 16, 17, Integer.MIN_VALUE, Integer.MAX_VALUE};
        for (int point : points) {
            Checks.due("where at " + point, INDEX, () -> x.where(point, 0));
            Checks.due("carriers at " + point, INDEX, () -> x.carriers(point, 0));
        }
        int[] variables = {-1, 3, Integer.MIN_VALUE, Integer.MAX_VALUE};
        for (int v : variables) {
            Checks.due("where of " + v, INDEX, () -> x.where(0, v));
        }
        int[] registers = {-1, 6, Integer.MIN_VALUE, Integer.MAX_VALUE};
        for (int r : registers) {
            Checks.due("carriers of " + r, INDEX, () -> x.carriers(0, r));
        }
        String full = "OUT 0; OUT 0; OUT 0; OUT 0; OUT 0; OUT 0; OUT 0; OUT 0; OUT 0; OUT 0; OUT 0; OUT 0; OUT 0; OUT 0; OUT 0; NAME 2 5";
        where(full, 16, 2, 0);
        carriers(full, 16, 5, 63);
        Checks.due("where behind 16", INDEX, () -> Programs.shortened(full).where(17, 2));
    }
}
