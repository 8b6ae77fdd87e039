import java.util.ArrayList;
import java.util.List;

/** The promises by their words, upon Definition: what each call of an object is due to answer. */
public final class Model {
    /** The calls of the face that answer or throw, each with how many arguments it has. */
    public static final String[] CALLS = {"set", "copy", "add", "out", "jump", "name", "clear", "shorten", "kept", "part",
        "where", "carriers", "restart", "step", "line", "register", "output", "value", "read"};
    public static final int[] ARGUMENTS = {2, 2, 3, 1, 2, 2, 0, 0, 0, 2, 2, 2, 0, 0, 0, 2, 2, 1, 1};
    public static final String DONE = "done";
    private static final int LINE_CALLS = 6;

    private final List<int[]> lines = new ArrayList<>();
    private Definition made = null;
    private int[][][] table = null;
    private int at = 0;
    private int steps = 0;
    private final int[][] registers = new int[2][6];
    private final List<List<Integer>> outputs = List.of(new ArrayList<>(), new ArrayList<>());
    private final Integer[] values = new Integer[3];

    /** What a call with arguments a, b and c is due to answer; a brief one has b = 1. */
    public String due(int call, int a, int b, int c) {
        if (call < LINE_CALLS) {
            return newLine(call, a, b, c);
        }
        switch (CALLS[call]) {
            case "clear":
                lines.clear();
                made = null;
                return DONE;
            case "shorten":
                made = new Definition(lines.toArray(new int[0][]));
                table = made.table();
                begin();
                return String.valueOf(made.rounds);
            default:
                return made == null ? Wrong.STATE : ofShortProgram(CALLS[call], a, b);
        }
    }

    private static boolean is(int number, int least, int most) {
        return least <= number && number <= most;
    }

    private String newLine(int kind, int a, int b, int c) {
        boolean[] fine = {
            is(a, 0, 5),
            is(a, 0, 5) && is(b, 0, 5),
            is(a, 0, 5) && is(b, 0, 5) && is(c, 0, 5),
            is(a, 0, 5),
            is(a, 0, 5) && is(b, 0, 16),
            is(a, 0, 2) && is(b, 0, 5),
        };
        if (!fine[kind]) {
            return Wrong.ARGUMENT;
        }
        if (lines.size() == 16) {
            return Wrong.STATE;
        }
        int count = ARGUMENTS[kind];
        lines.add(new int[] {kind, a, count > 1 ? b : 0, count > 2 ? c : 0});
        made = null;
        return String.valueOf(lines.size() - 1);
    }

    private String ofShortProgram(String call, int a, int b) {
        int n = lines.size();
        switch (call) {
            case "kept": return String.valueOf(kept());
            case "part": return is(a, 0, n - 1) && is(b, 0, 3) ? String.valueOf(made.brief[a][b]) : Wrong.INDEX;
            case "where": return is(a, 0, n) && is(b, 0, 2) ? String.valueOf(place(a, b)) : Wrong.INDEX;
            case "carriers": return is(a, 0, n) && is(b, 0, 5) ? String.valueOf(table[a][b][0]) : Wrong.INDEX;
            case "restart": begin(); return DONE;
            case "step": return String.valueOf(step());
            case "line": return String.valueOf(at);
            case "register": return is(a, 0, 5) ? String.valueOf(registers[b][a]) : Wrong.INDEX;
            case "output": return is(a, 0, outputs.get(b).size() - 1) ? String.valueOf(outputs.get(b).get(a)) : Wrong.INDEX;
            case "value": return !is(a, 0, 2) ? Wrong.INDEX : values[a] == null ? Wrong.STATE : String.valueOf(values[a]);
            case "read": return is(a, 0, 2) ? read(a) : Wrong.INDEX;
            default: throw new UnsupportedOperationException(call);
        }
    }

    private int kept() {
        int kept = 0;
        for (int[] line : made.brief) {
            kept += line[0] == -1 ? 0 : 1;
        }
        return kept;
    }

    private int place(int point, int v) {
        int[] facts = table[point][6 + v];
        if (facts[0] != 0) {
            return Integer.numberOfTrailingZeros(facts[0]);
        }
        return facts[1] == 1 ? 6 : -1;
    }

    private String read(int v) {
        int place = place(at, v);
        if (place == -1) {
            return Wrong.NOWHERE;
        }
        return String.valueOf(place == 6 ? table[at][6 + v][2] : registers[1][place]);
    }

    private void begin() {
        at = 0;
        steps = 0;
        for (int r = 0; r < 6; r++) {
            registers[0][r] = 0;
            registers[1][r] = 0;
        }
        outputs.get(0).clear();
        outputs.get(1).clear();
        for (int v = 0; v < 3; v++) {
            values[v] = null;
        }
    }

    private int step() {
        if (at == lines.size() || steps == 200) {
            return -1;
        }
        steps++;
        int[] line = lines.get(at);
        if (line[0] == 5) {
            values[line[1]] = registers[0][line[2]];
        }
        perform(made.brief[at], 1);
        at = perform(line, 0);
        return at;
    }

    private int perform(int[] line, int which) {
        int[] r = registers[which];
        switch (line[0]) {
            case 0: r[line[1]] = line[2]; break;
            case 1: r[line[1]] = r[line[2]]; break;
            case 2: r[line[1]] = r[line[2]] + r[line[3]]; break;
            case 3: outputs.get(which).add(r[line[1]]); break;
            case 4: return r[line[1]] == 0 ? Math.min(line[2], lines.size()) : at + 1;
            default: break;
        }
        return at + 1;
    }

    /** The call itself. */
    public static Object make(TracedCode x, int call, int a, int b, int c) {
        switch (CALLS[call]) {
            case "set": return x.set(a, b);
            case "copy": return x.copy(a, b);
            case "add": return x.add(a, b, c);
            case "out": return x.out(a);
            case "jump": return x.jump(a, b);
            case "name": return x.name(a, b);
            case "clear": x.clear(); return DONE;
            case "shorten": return x.shorten();
            case "kept": return x.kept();
            case "part": return x.part(a, b);
            case "where": return x.where(a, b);
            case "carriers": return x.carriers(a, b);
            case "restart": x.restart(); return DONE;
            case "step": return x.step();
            case "line": return x.line();
            case "register": return x.register(a, b == 1);
            case "output": return x.output(a, b == 1);
            case "value": return x.value(a);
            case "read": return x.read(a);
            default: throw new UnsupportedOperationException(CALLS[call]);
        }
    }
}
