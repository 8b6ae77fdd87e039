import java.util.Arrays;

/**
 * Many programs, made by a fixed sequence of numbers: the answers of promises 9 to 13 against the
 * document's definitions, and promises 15 to 20 against a plain run of the program. A variable that
 * is found is read as it is in the program, and both programs put out the same. The document stops
 * at 512 calls of an object; the class has no such limit, and this test makes use of that.
 */
public final class DefinitionTest {
    private static final int PROGRAMS = 6000;
    private static long seed = 20261115;
    private static int compared = 0;
    private static int mostRounds = 0;
    private static int found = 0;

    public static void main(String[] args) {
        TracedCode used = new TracedCode();
        for (int i = 0; i < PROGRAMS; i++) {
            int[][] program = made(i);
            TracedCode x = i % 2 == 0 ? new TracedCode() : used;
            x.clear();
            write(x, program);
            compare(x, program);
            runThrough(x, program);
        }
        System.out.println(compared + " of " + PROGRAMS + " programs compared point by point, at most "
                + mostRounds + " rounds, " + found + " readings of found variables");
        Checks.same("enough compared", true, compared > PROGRAMS / 2 && found > PROGRAMS && mostRounds > 3);
        Checks.finish();
    }

    private static int below(int bound) {
        seed = seed * 6364136223846793005L + 1442695040888963407L;
        return (int) ((seed >>> 33) % bound);
    }

    /** Programs of several tempers: few registers, many copies, many jumps. */
    private static int[][] made(int i) {
        int registers = 2 + below(5);
        int copies = below(4);
        int jumps = below(3);
        int[][] program = new int[below(17)][];
        for (int p = 0; p < program.length; p++) {
            int kind = below(6 + copies + jumps);
            kind = kind >= 6 + copies ? 4 : kind >= 6 ? 1 : kind;
            int r = below(registers);
            int s = below(registers);
            int t = below(registers);
            int c = below(4) - 1;
            int k = below(17);
            int v = below(3);
            int[][] lines = {{0, r, c, 0}, {1, r, s, 0}, {2, r, s, t}, {3, r, 0, 0}, {4, r, k, 0}, {5, v, r, 0}};
            program[p] = lines[kind];
        }
        return program;
    }

    private static void write(TracedCode x, int[][] program) {
        String[] kinds = {"SET ", "COPY ", "ADD ", "OUT ", "JUMP ", "NAME "};
        for (int[] line : program) {
            Programs.append(x, kinds[line[0]] + line[1] + " " + line[2] + " " + line[3]);
        }
    }

    private static void compare(TracedCode x, int[][] program) {
        String text = Arrays.deepToString(program);
        Definition due = new Definition(program);
        Checks.due("shorten of " + text, due.rounds, () -> x.shorten());
        mostRounds = Math.max(mostRounds, due.rounds);
        int kept = 0;
        for (int p = 0; p < program.length; p++) {
            int[] got = {x.part(p, 0), x.part(p, 1), x.part(p, 2), x.part(p, 3)};
            Checks.same("line " + p + " of " + text, Arrays.toString(due.brief[p]), Arrays.toString(got));
            kept += got[0] == -1 ? 0 : 1;
        }
        Checks.same("kept of " + text, kept, x.kept());
        int[][][] table = due.table();
        if (table == null) {
            return;
        }
        compared++;
        for (int p = 0; p <= program.length; p++) {
            for (int r = 0; r < 6; r++) {
                Checks.same("carriers(" + p + ", " + r + ") of " + text, table[p][r][0], x.carriers(p, r));
            }
            for (int v = 0; v < 3; v++) {
                Checks.same("where(" + p + ", " + v + ") of " + text, place(table[p][6 + v]), x.where(p, v));
            }
        }
    }

    private static int place(int[] facts) {
        if (facts[0] != 0) {
            return Integer.numberOfTrailingZeros(facts[0]);
        }
        return facts[1] == 1 ? 6 : -1;
    }

    private static void runThrough(TracedCode x, int[][] program) {
        String text = Arrays.deepToString(program);
        int[] registers = new int[6];
        Integer[] values = new Integer[3];
        int at = 0;
        int outputs = 0;
        for (int steps = 0; steps <= 200; steps++) {
            Checks.same("line of " + text, at, x.line());
            compareVariables(x, values, text);
            for (int r = 0; r < 6; r++) {
                Checks.same("register of " + text, registers[r], x.register(r, false));
            }
            if (at == program.length || steps == 200) {
                Checks.same("last step of " + text, -1, x.step());
                break;
            }
            int[] line = program[at];
            at = next(program, at, registers);
            if (line[0] == 5) {
                values[line[1]] = registers[line[2]];
            }
            Checks.same("step of " + text, at, x.step());
            if (line[0] == 3) {
                Checks.same("output of " + text, registers[line[1]], x.output(outputs, false));
                Checks.same("short output of " + text, registers[line[1]], x.output(outputs, true));
                outputs++;
            }
        }
    }

    private static int next(int[][] program, int at, int[] registers) {
        int[] line = program[at];
        switch (line[0]) {
            case 0:
                registers[line[1]] = line[2];
                break;
            case 1:
                registers[line[1]] = registers[line[2]];
                break;
            case 2:
                registers[line[1]] = registers[line[2]] + registers[line[3]];
                break;
            case 4:
                return registers[line[1]] == 0 ? Math.min(line[2], program.length) : at + 1;
            default:
                break;
        }
        return at + 1;
    }

    private static void compareVariables(TracedCode x, Integer[] values, String text) {
        for (int v = 0; v < 3; v++) {
            int given = v;
            String value = values[v] == null ? "throws.IllegalStateException" : values[v].toString();
            Checks.due("value of " + text, value, () -> x.value(given));
            boolean isFound = x.where(x.line(), v) != -1;
            found += isFound ? 1 : 0;
            Checks.due("read of " + text, isFound ? value : "throws.NoSuchElementException", () -> x.read(given));
        }
    }
}
