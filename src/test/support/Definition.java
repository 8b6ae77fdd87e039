import java.util.ArrayDeque;
import java.util.ArrayList;
import java.util.Arrays;
import java.util.HashSet;
import java.util.List;
import java.util.Set;

/**
 * The terms of the document by their words, way by way and without any sharing with the class: a
 * program here is rows {kind, three numbers}, kind -1 when EMPTY. Slow, and used for comparing.
 */
public final class Definition {
    private static final int MOST_STATES = 20000;

    final int[][] program;
    final int[][] brief;
    final int rounds;

    public Definition(int[][] program) {
        this.program = program;
        int[][] now = copyOf(program);
        int changing = 0;
        for (int[][] next = round(now); !Arrays.deepEquals(now, next); next = round(now)) {
            now = next;
            changing++;
        }
        brief = now;
        rounds = changing;
    }

    private static int[][] copyOf(int[][] lines) {
        int[][] copy = new int[lines.length][];
        for (int p = 0; p < lines.length; p++) {
            copy[p] = lines[p].clone();
        }
        return copy;
    }

    static List<Integer> nextTo(int[][] lines, int p) {
        List<Integer> next = new ArrayList<>();
        if (p < lines.length) {
            next.add(p + 1);
            if (lines[p][0] == 4) {
                next.add(Math.min(lines[p][2], lines.length));
            }
        }
        return next;
    }

    static boolean[] reached(int[][] lines) {
        boolean[] reached = new boolean[lines.length + 1];
        ArrayDeque<Integer> open = new ArrayDeque<>(List.of(0));
        while (!open.isEmpty()) {
            int p = open.pop();
            if (!reached[p]) {
                reached[p] = true;
                open.addAll(nextTo(lines, p));
            }
        }
        return reached;
    }

    private static boolean writes(int[] line, int r) {
        return line[0] >= 0 && line[0] <= 2 && line[1] == r;
    }

    private static int[] readPlaces(int[] line) {
        switch (line[0]) {
            case 1: return new int[] {2};
            case 2: return new int[] {2, 3};
            case 3: return new int[] {1};
            case 4: return new int[] {1};
            case 5: return new int[] {2};
            default: return new int[0];
        }
    }

    /** By the ways to p: each is in a state, whether there is such a COPY on it, that it keeps. */
    private static boolean holds(int[][] lines, int s, int u, int p) {
        boolean[][] seen = new boolean[lines.length + 1][2];
        ArrayDeque<int[]> open = new ArrayDeque<>();
        open.add(new int[] {0, 0});
        while (!open.isEmpty()) {
            int[] way = open.pop();
            if (seen[way[0]][way[1]]) {
                continue;
            }
            seen[way[0]][way[1]] = true;
            if (way[0] == lines.length) {
                continue;
            }
            int[] line = lines[way[0]];
            int state = way[1];
            if (line[0] == 1 && line[1] == s && line[2] == u) {
                state = 1;
            } else if (writes(line, s) || writes(line, u)) {
                state = 0;
            }
            for (int q : nextTo(lines, way[0])) {
                open.add(new int[] {q, state});
            }
        }
        return !seen[p][0] && seen[p][1];
    }

    private static boolean live(int[][] lines, int p, int s) {
        boolean[] seen = new boolean[lines.length + 1];
        ArrayDeque<Integer> open = new ArrayDeque<>(nextTo(lines, p));
        while (!open.isEmpty()) {
            int q = open.pop();
            if (q == lines.length || seen[q]) {
                continue;
            }
            seen[q] = true;
            for (int place : readPlaces(lines[q])) {
                if (lines[q][place] == s && lines[q][0] != 5) {
                    return true;
                }
            }
            if (!writes(lines[q], s)) {
                open.addAll(nextTo(lines, q));
            }
        }
        return false;
    }

    private static int[][] round(int[][] lines) {
        boolean[] reached = reached(lines);
        int[][] first = copyOf(lines);
        for (int p = 0; p < lines.length; p++) {
            for (int place : readPlaces(lines[p])) {
                int s = lines[p][place];
                for (int u = 0; u < 6; u++) {
                    if (reached[p] && u != s && holds(lines, s, u, p)) {
                        first[p][place] = u;
                    }
                }
            }
            if (first[p][0] == 1 && first[p][1] == first[p][2]) {
                first[p] = new int[] {-1, 0, 0, 0};
            }
        }
        int[][] second = copyOf(first);
        for (int p = 0; p < lines.length; p++) {
            boolean writing = first[p][0] >= 0 && first[p][0] <= 2;
            if (writing && (!reached[p] || !live(first, p, first[p][1]))) {
                second[p] = new int[] {-1, 0, 0, 0};
            }
        }
        return second;
    }

    /**
     * What one way brings to its last point: for six registers and three variables carriers, 1 for
     * a constant, the constant, and 1 for unnamed.
     */
    private static List<Integer> start() {
        List<Integer> state = new ArrayList<>();
        for (int x = 0; x < 9; x++) {
            state.addAll(x < 6 ? List.of(63, 1, 0, 0) : List.of(0, 0, 0, 1));
        }
        return state;
    }

    private List<Integer> behind(List<Integer> before, int p) {
        List<Integer> after = new ArrayList<>(before);
        int[] small = brief[p];
        for (int x = 0; x < 9; x++) {
            int had = before.get(4 * x);
            for (int r = 0; r < 6; r++) {
                if (writes(small, r)) {
                    boolean gains = small[0] == 1 && (had >> small[2] & 1) == 1;
                    after.set(4 * x, gains ? had | 1 << r : had & ~(1 << r));
                }
            }
        }
        int[] line = program[p];
        int alone = small[0] == -1 ? 0 : 1 << line[1];
        switch (line[0]) {
            case 0:
                give(after, line[1], alone, 1, line[2]);
                break;
            case 1:
                give(after, line[1], after.get(4 * line[2]) | alone, before.get(4 * line[2] + 1), before.get(4 * line[2] + 2));
                break;
            case 2:
                give(after, line[1], alone, 0, 0);
                break;
            case 5:
                give(after, 6 + line[1], after.get(4 * line[2]), after.get(4 * line[2] + 1), after.get(4 * line[2] + 2));
                break;
            default:
                break;
        }
        return after;
    }

    private static void give(List<Integer> state, int x, int carriers, int has, int constant) {
        state.set(4 * x, carriers);
        state.set(4 * x + 1, has);
        state.set(4 * x + 2, has == 1 ? constant : 0);
        state.set(4 * x + 3, 0);
    }

    /** All that the ways bring to each point. */
    private List<Set<List<Integer>>> byAllWays() {
        List<Set<List<Integer>>> seen = new ArrayList<>();
        for (int p = 0; p <= program.length; p++) {
            seen.add(new HashSet<>());
        }
        ArrayDeque<Integer> points = new ArrayDeque<>(List.of(0));
        ArrayDeque<List<Integer>> states = new ArrayDeque<>(List.of(start()));
        int count = 0;
        while (!points.isEmpty()) {
            int p = points.pop();
            List<Integer> state = states.pop();
            if (!seen.get(p).add(state)) {
                continue;
            }
            if (++count > MOST_STATES) {
                throw new UnsupportedOperationException("too many ways to go through");
            }
            if (p < program.length) {
                List<Integer> after = behind(state, p);
                for (int q : nextTo(program, p)) {
                    points.push(q);
                    states.push(after);
                }
            }
        }
        return seen;
    }

    /**
     * At [point][x]: carriers, 1 for a constant, the constant, 1 for unnamed, by all ways. Each
     * line maps carriers by ones, so what all ways have in common is the greatest that there is.
     */
    public int[][][] table() {
        List<Set<List<Integer>>> ways = byAllWays();
        int[][][] table = new int[program.length + 1][9][];
        for (int p = 0; p <= program.length; p++) {
            for (int x = 0; x < 9; x++) {
                table[p][x] = common(ways.get(p), x);
            }
        }
        return table;
    }

    private static int[] common(Set<List<Integer>> states, int x) {
        int[] common = null;
        for (List<Integer> state : states) {
            int[] one = {state.get(4 * x), state.get(4 * x + 1), state.get(4 * x + 2), state.get(4 * x + 3)};
            if (common == null) {
                common = one;
                continue;
            }
            common[0] &= one[0];
            common[1] = common[1] == 1 && one[1] == 1 && common[2] == one[2] ? 1 : 0;
            common[3] |= one[3];
        }
        return common == null || common[3] == 1 ? new int[] {0, 0, 0, 1} : common;
    }
}
