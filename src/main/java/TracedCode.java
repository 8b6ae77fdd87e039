import java.util.Arrays;
import java.util.NoSuchElementException;

/**
 * Makes small programs shorter by passing copies on and leaving out what is dead, keeps lists of
 * where the variables of the source can be found then, and runs both programs side by side.
 *
 * <p>Every line of a program can be followed by the one behind it (a jump may always fall through),
 * so a way leads to every line and every point is reached: nothing here has to ask for it.
 */
public final class TracedCode {
    public static final int NONE = -1;
    public static final int CONSTANT = 6;

    private static final int MOST_LINES = 16;
    private static final int POINTS = MOST_LINES + 1;
    private static final int REGISTERS = 6;
    private static final int VARIABLES = 3;
    private static final int PLACES = 4;
    private static final int MOST_STEPS = 200;

    /**
     * Far above what any loop that goes on while something changes can need: each turn but the last
     * takes a fact or a line away, or makes a line read a register that was written earlier.
     */
    private static final int MOST_REPEATS = 1000000;

    private static final int SET = 0;
    private static final int COPY = 1;
    private static final int ADD = 2;
    private static final int OUT = 3;
    private static final int JUMP = 4;
    private static final int NAME = 5;

    private final Code program;
    private final Code shortProgram;
    private final Shortener shortener;
    private final Carriers carrierLists;
    private final Run run;
    private boolean shortened;

    public TracedCode() {
        program = new Code();
        shortProgram = new Code();
        shortener = new Shortener();
        carrierLists = new Carriers();
        run = new Run();
        shortened = false;
    }

    public int set(int r, int c) throws IllegalArgumentException, IllegalStateException {
        requireArgument(isRegister(r));
        return newLine(SET, r, c, 0);
    }

    public int copy(int r, int s) throws IllegalArgumentException, IllegalStateException {
        requireArgument(isRegister(r) && isRegister(s));
        return newLine(COPY, r, s, 0);
    }

    public int add(int r, int s, int t) throws IllegalArgumentException, IllegalStateException {
        requireArgument(isRegister(r) && isRegister(s) && isRegister(t));
        return newLine(ADD, r, s, t);
    }

    public int out(int r) throws IllegalArgumentException, IllegalStateException {
        requireArgument(isRegister(r));
        return newLine(OUT, r, 0, 0);
    }

    public int jump(int r, int k) throws IllegalArgumentException, IllegalStateException {
        requireArgument(isRegister(r) && isBelow(k, POINTS));
        return newLine(JUMP, r, k, 0);
    }

    public int name(int v, int r) throws IllegalArgumentException, IllegalStateException {
        requireArgument(isVariable(v) && isRegister(r));
        return newLine(NAME, v, r, 0);
    }

    public void clear() {
        program.dropLines();
        shortened = false;
    }

    public int shorten() {
        shortProgram.takeLines(program);
        int rounds = shortener.changingRounds(shortProgram);
        carrierLists.find(program, shortProgram);
        run.begin();
        shortened = true;
        return rounds;
    }

    public int kept() throws IllegalStateException {
        requireShortProgram();
        return shortProgram.fullLines();
    }

    public int part(int line, int i) throws IllegalStateException, IndexOutOfBoundsException {
        requireShortProgram();
        requireIndex(isBelow(line, shortProgram.size()) && isBelow(i, PLACES));
        return shortProgram.number(line, i);
    }

    public int where(int point, int v) throws IllegalStateException, IndexOutOfBoundsException {
        requireShortProgram();
        requireIndex(isPoint(point) && isVariable(v));
        return carrierLists.placeOfVariable(point, v);
    }

    public int carriers(int point, int r) throws IllegalStateException, IndexOutOfBoundsException {
        requireShortProgram();
        requireIndex(isPoint(point) && isRegister(r));
        return carrierLists.ofRegister(point, r);
    }

    public void restart() throws IllegalStateException {
        requireShortProgram();
        run.begin();
    }

    public int step() throws IllegalStateException {
        requireShortProgram();
        return run.advance(program, shortProgram);
    }

    public int line() throws IllegalStateException {
        requireShortProgram();
        return run.position();
    }

    public int register(int r, boolean brief) throws IllegalStateException, IndexOutOfBoundsException {
        requireShortProgram();
        requireIndex(isRegister(r));
        return run.machine(brief).content(r);
    }

    public int output(int k, boolean brief) throws IllegalStateException, IndexOutOfBoundsException {
        requireShortProgram();
        requireIndex(isBelow(k, run.machine(brief).outputCount()));
        return run.machine(brief).outputAt(k);
    }

    public int value(int v) throws IllegalStateException, IndexOutOfBoundsException {
        requireShortProgram();
        requireIndex(isVariable(v));
        requireState(run.hasValue(v));
        return run.valueOf(v);
    }

    public int read(int v)
            throws IllegalStateException, IndexOutOfBoundsException, java.util.NoSuchElementException {
        requireShortProgram();
        requireIndex(isVariable(v));
        int place = carrierLists.placeOfVariable(run.position(), v);
        requireFound(place != NONE);
        if (place == CONSTANT) {
            return carrierLists.constantOfVariable(run.position(), v);
        }
        return run.machine(true).content(place);
    }

    private int newLine(int kind, int first, int second, int third) {
        requireState(program.size() < MOST_LINES);
        shortened = false;
        return program.append(kind, first, second, third);
    }

    private boolean isPoint(int point) {
        return isBelow(point, shortProgram.size() + 1);
    }

    private static boolean isRegister(int r) {
        return isBelow(r, REGISTERS);
    }

    private static boolean isVariable(int v) {
        return isBelow(v, VARIABLES);
    }

    private static boolean isBelow(int number, int bound) {
        return number >= 0 && number < bound;
    }

    private void requireShortProgram() {
        requireState(shortened);
    }

    private static void requireState(boolean holds) {
        if (!holds) {
            throw new IllegalStateException();
        }
    }

    private static void requireArgument(boolean holds) {
        if (!holds) {
            throw new IllegalArgumentException();
        }
    }

    private static void requireIndex(boolean holds) {
        if (!holds) {
            throw new IndexOutOfBoundsException();
        }
    }

    private static void requireFound(boolean holds) {
        if (!holds) {
            throw new NoSuchElementException();
        }
    }

    /** The lines of a program, each a kind and three numbers behind it. */
    private static final class Code {
        /** For each kind the places at which it reads a register, as the sum of 2^place. */
        private static final int[] READ_PLACES = {0, 4, 12, 2, 2, 4};

        private final int[][] numbers = new int[PLACES][MOST_LINES];
        private int size = 0;

        int size() {
            return size;
        }

        int number(int line, int place) {
            return numbers[place][line];
        }

        int kind(int line) {
            return numbers[0][line];
        }

        int append(int kind, int first, int second, int third) {
            int line = size;
            numbers[0][line] = kind;
            numbers[1][line] = first;
            numbers[2][line] = second;
            numbers[3][line] = third;
            size = line + 1;
            return line;
        }

        void dropLines() {
            size = 0;
        }

        void takeLines(Code other) {
            size = other.size;
            for (int place = 0; place < PLACES; place++) {
                System.arraycopy(other.numbers[place], 0, numbers[place], 0, size);
            }
        }

        void makeEmpty(int line) {
            numbers[0][line] = NONE;
            numbers[1][line] = 0;
            numbers[2][line] = 0;
            numbers[3][line] = 0;
        }

        boolean isEmpty(int line) {
            return numbers[0][line] == NONE;
        }

        int fullLines() {
            int count = 0;
            for (int line = 0; line < size; line++) {
                if (!isEmpty(line)) {
                    count++;
                }
            }
            return count;
        }

        boolean readsAt(int line, int place) {
            int kind = numbers[0][line];
            return kind != NONE && (READ_PLACES[kind] >> place & 1) != 0;
        }

        void readInstead(int line, int place, int register) {
            numbers[place][line] = register;
        }

        /** The register that a line writes, or NONE. */
        int written(int line) {
            int kind = numbers[0][line];
            return kind == SET || kind == COPY || kind == ADD ? numbers[1][line] : NONE;
        }

        /** The registers that a line reads so that they are live before it, as the sum of 2^r. */
        int needed(int line) {
            if (numbers[0][line] == NAME) {
                return 0;
            }
            int registers = 0;
            for (int place = 1; place < PLACES; place++) {
                if (readsAt(line, place)) {
                    registers |= 1 << numbers[place][line];
                }
            }
            return registers;
        }

        /** The line to which a JUMP leads; for any other line the one behind. */
        int target(int line) {
            if (numbers[0][line] != JUMP) {
                return line + 1;
            }
            return numbers[2][line] < size ? numbers[2][line] : size;
        }
    }

    /**
     * What holds at each point by every way to it. It is first taken from the one way that goes
     * through all lines in their order, and then narrowed by every step until nothing is lost.
     */
    private abstract static class Facts {
        /** Works out what holds behind a line. */
        abstract void follow(Code program, Code brief, int line);

        /** Lets a point have what was worked out last. */
        abstract void put(int point);

        /** Takes from a point what was not worked out last; answers whether that was anything. */
        abstract boolean narrow(int point);

        final void settle(Code program, Code brief) {
            for (int line = 0; line < brief.size(); line++) {
                follow(program, brief, line);
                put(line + 1);
            }
            boolean changed = true;
            for (int repeat = 0; changed && repeat < MOST_REPEATS; repeat++) {
                changed = false;
                for (int line = 0; line < brief.size(); line++) {
                    follow(program, brief, line);
                    changed |= narrow(line + 1);
                    changed |= narrow(brief.target(line));
                }
            }
        }
    }

    /**
     * Which COPY holds at which point of the short program. There is at most one of a register: on
     * each way it is the line that wrote this register last.
     */
    private static final class Copies extends Facts {
        private final int[][] origins = new int[REGISTERS][POINTS];
        private final int[] behind = new int[REGISTERS];

        void find(Code brief) {
            for (int r = 0; r < REGISTERS; r++) {
                origins[r][0] = NONE;
            }
            settle(brief, brief);
        }

        /** The register of which r is a copy before a line, or NONE. */
        int origin(int line, int r) {
            return origins[r][line];
        }

        void follow(Code program, Code brief, int line) {
            int written = brief.written(line);
            for (int r = 0; r < REGISTERS; r++) {
                int origin = origins[r][line];
                behind[r] = r == written || origin == written ? NONE : origin;
            }
            if (brief.kind(line) == COPY && brief.number(line, 2) != written) {
                behind[written] = brief.number(line, 2);
            }
        }

        void put(int point) {
            for (int r = 0; r < REGISTERS; r++) {
                origins[r][point] = behind[r];
            }
        }

        boolean narrow(int point) {
            boolean changed = false;
            for (int r = 0; r < REGISTERS; r++) {
                if (origins[r][point] != NONE && origins[r][point] != behind[r]) {
                    origins[r][point] = NONE;
                    changed = true;
                }
            }
            return changed;
        }
    }

    /** The rounds that make the short program out of the program. */
    private static final class Shortener {
        private final Copies copies = new Copies();
        private final int[] live = new int[POINTS];

        int changingRounds(Code brief) {
            int rounds = 0;
            boolean changed = true;
            while (changed && rounds < MOST_REPEATS) {
                boolean passed = passCopiesOn(brief);
                boolean leftOut = leaveOutDead(brief);
                changed = passed || leftOut;
                if (changed) {
                    rounds++;
                }
            }
            return rounds;
        }

        private boolean passCopiesOn(Code brief) {
            copies.find(brief);
            boolean changed = false;
            for (int line = 0; line < brief.size(); line++) {
                for (int place = 1; place < PLACES; place++) {
                    changed |= passOneOn(brief, line, place);
                }
                if (brief.kind(line) == COPY && brief.number(line, 1) == brief.number(line, 2)) {
                    brief.makeEmpty(line);
                    changed = true;
                }
            }
            return changed;
        }

        private boolean passOneOn(Code brief, int line, int place) {
            if (!brief.readsAt(line, place)) {
                return false;
            }
            int origin = copies.origin(line, brief.number(line, place));
            if (origin == NONE) {
                return false;
            }
            brief.readInstead(line, place, origin);
            return true;
        }

        private boolean leaveOutDead(Code brief) {
            findLive(brief);
            boolean changed = false;
            for (int line = 0; line < brief.size(); line++) {
                int written = brief.written(line);
                if (written != NONE && (liveBehind(brief, line) >> written & 1) == 0) {
                    brief.makeEmpty(line);
                    changed = true;
                }
            }
            return changed;
        }

        private void findLive(Code brief) {
            Arrays.fill(live, 0);
            boolean changed = true;
            for (int repeat = 0; changed && repeat < MOST_REPEATS; repeat++) {
                changed = false;
                for (int line = brief.size() - 1; line >= 0; line--) {
                    int before = liveBefore(brief, line);
                    changed |= before != live[line];
                    live[line] = before;
                }
            }
        }

        private int liveBefore(Code brief, int line) {
            int written = brief.written(line);
            int passing = liveBehind(brief, line);
            if (written != NONE) {
                passing &= ~(1 << written);
            }
            return passing | brief.needed(line);
        }

        private int liveBehind(Code brief, int line) {
            return live[line + 1] | live[brief.target(line)];
        }
    }

    /**
     * The carriers of the registers, and behind those of the variables, at each point: as the sum
     * of 2^r, with 2^CONSTANT for having a constant, so that the least one is where to find it. To
     * be unnamed is to have none of all these: so it stays, by every line but NAME.
     */
    private static final class Carriers extends Facts {
        private static final int HOLDERS = REGISTERS + VARIABLES;
        private static final int ALL_REGISTERS = (1 << REGISTERS) - 1;
        private static final int WITH_CONSTANT = 1 << CONSTANT;

        private final int[][] marks = new int[HOLDERS][POINTS];
        private final int[][] constants = new int[HOLDERS][POINTS];
        private final int[] marksBehind = new int[HOLDERS];
        private final int[] constantsBehind = new int[HOLDERS];

        void find(Code program, Code brief) {
            for (int holder = 0; holder < HOLDERS; holder++) {
                marks[holder][0] = holder < REGISTERS ? ALL_REGISTERS | WITH_CONSTANT : 0;
                constants[holder][0] = 0;
            }
            settle(program, brief);
        }

        int ofRegister(int point, int r) {
            return marks[r][point] & ALL_REGISTERS;
        }

        int placeOfVariable(int point, int v) {
            for (int place = 0; place <= CONSTANT; place++) {
                if ((marks[REGISTERS + v][point] >> place & 1) != 0) {
                    return place;
                }
            }
            return NONE;
        }

        int constantOfVariable(int point, int v) {
            return constants[REGISTERS + v][point];
        }

        void follow(Code program, Code brief, int line) {
            for (int holder = 0; holder < HOLDERS; holder++) {
                marksBehind[holder] = behindShortLine(marks[holder][line], brief, line);
                constantsBehind[holder] = constants[holder][line];
            }
            int first = program.number(line, 1);
            int second = program.number(line, 2);
            int itself = brief.isEmpty(line) ? 0 : 1 << first;
            switch (program.kind(line)) {
                case SET:
                    marksBehind[first] = itself | WITH_CONSTANT;
                    constantsBehind[first] = second;
                    break;
                case COPY:
                    marksBehind[first] = marksBehind[second] | itself;
                    constantsBehind[first] = constantsBehind[second];
                    break;
                case ADD:
                    marksBehind[first] = itself;
                    break;
                case NAME:
                    marksBehind[REGISTERS + first] = marksBehind[second];
                    constantsBehind[REGISTERS + first] = constantsBehind[second];
                    break;
                default:
                    break;
            }
        }

        private static int behindShortLine(int before, Code brief, int line) {
            int written = brief.written(line);
            if (written == NONE) {
                return before;
            }
            if (brief.kind(line) == COPY && (before >> brief.number(line, 2) & 1) != 0) {
                return before | 1 << written;
            }
            return before & ~(1 << written);
        }

        void put(int point) {
            for (int holder = 0; holder < HOLDERS; holder++) {
                marks[holder][point] = marksBehind[holder];
                constants[holder][point] = constantsBehind[holder];
            }
        }

        boolean narrow(int point) {
            boolean changed = false;
            for (int holder = 0; holder < HOLDERS; holder++) {
                int common = marks[holder][point] & marksBehind[holder];
                if (constants[holder][point] != constantsBehind[holder]) {
                    common &= ~WITH_CONSTANT;
                }
                changed |= common != marks[holder][point];
                marks[holder][point] = common;
            }
            return changed;
        }
    }

    /** The registers of one of the two programs in a run, and what it has put out. */
    private static final class Machine {
        private final int[] contents = new int[REGISTERS];
        private final int[] outputs = new int[MOST_STEPS];
        private int outputCount = 0;

        void begin() {
            Arrays.fill(contents, 0);
            outputCount = 0;
        }

        int content(int r) {
            return contents[r];
        }

        int outputCount() {
            return outputCount;
        }

        int outputAt(int k) {
            return outputs[k];
        }

        /** Does a line; answers the next one. */
        int perform(Code code, int line) {
            int first = code.number(line, 1);
            int second = code.number(line, 2);
            switch (code.kind(line)) {
                case SET:
                    contents[first] = second;
                    break;
                case COPY:
                    contents[first] = contents[second];
                    break;
                case ADD:
                    contents[first] = contents[second] + contents[code.number(line, 3)];
                    break;
                case OUT:
                    putOut(contents[first]);
                    break;
                case JUMP:
                    return contents[first] == 0 ? code.target(line) : line + 1;
                default:
                    break;
            }
            return line + 1;
        }

        private void putOut(int number) {
            if (outputCount < MOST_STEPS) {
                outputs[outputCount] = number;
                outputCount++;
            }
        }
    }

    /** Both programs, side by side; the line they are at is the same one for both. */
    private static final class Run {
        private final Machine whole = new Machine();
        private final Machine brief = new Machine();
        private final int[] values = new int[VARIABLES];
        private final boolean[] valued = new boolean[VARIABLES];
        private int position = 0;
        private int steps = 0;

        void begin() {
            whole.begin();
            brief.begin();
            for (int v = 0; v < VARIABLES; v++) {
                valued[v] = false;
            }
            position = 0;
            steps = 0;
        }

        int position() {
            return position;
        }

        Machine machine(boolean ofShortProgram) {
            return ofShortProgram ? brief : whole;
        }

        boolean hasValue(int v) {
            return valued[v];
        }

        int valueOf(int v) {
            return values[v];
        }

        int advance(Code program, Code shortProgram) {
            if (position >= program.size() || steps >= MOST_STEPS) {
                return NONE;
            }
            if (program.kind(position) == NAME) {
                giveValue(program.number(position, 1), whole.content(program.number(position, 2)));
            }
            brief.perform(shortProgram, position);
            position = whole.perform(program, position);
            steps++;
            return position;
        }

        private void giveValue(int v, int number) {
            values[v] = number;
            valued[v] = true;
        }
    }
}
