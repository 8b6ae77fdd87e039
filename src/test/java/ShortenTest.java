/** Promises 9 to 11, and what 'Terms' says of the short program, sentence by sentence. */
public final class ShortenTest {
    public static void main(String[] args) {
        readPlaces();
        theProgramAtFirst();
        everyLineIsReached();
        everyWay();
        theWayOfNoLines();
        neitherIsWritten();
        notACopyOfItself();
        lookedUpBeforeChanged();
        copiesOntoThemselves();
        liveBehind();
        thisOneItself();
        notByName();
        noLineBeforeWrites();
        liveOnSomeWay();
        liveAtTheEnd();
        allAtOnce();
        rounds();
        mostRounds();
        shortenWithoutLines();
        shortenBeginsARun();
        shorteningAnew();
        kept();
        keptWithoutShortProgram();
        parts();
        partsOfEmptyLines();
        partsWithoutShortProgram();
        partsOfNoLine();
        partsOfNoPlace();
        Checks.finish();
    }

    private static void shortens(String program, int rounds, String brief) {
        TracedCode x = Programs.written(program);
        Checks.due("shorten of " + program, rounds, () -> x.shorten());
        Checks.same("the short program of " + program, brief, Programs.brief(x));
    }

    private static void stays(String program) {
        shortens(program, 0, program);
    }

    private static void readPlaces() {
        Checks.sentence("s and t are READ by 1 and 2, and r by 3, 4 and 5");
        shortens("COPY 1 2; COPY 3 1; SET 1 0; SET 2 0; OUT 3; OUT 1; OUT 2", 1,
                ".; COPY 3 2; SET 1 0; SET 2 0; OUT 3; OUT 1; OUT 2");
        shortens("COPY 1 2; ADD 3 1 4; OUT 3", 1, ".; ADD 3 2 4; OUT 3");
        shortens("COPY 1 2; ADD 3 4 1; OUT 3", 1, ".; ADD 3 4 2; OUT 3");
        shortens("COPY 1 2; ADD 3 1 1; OUT 3", 1, ".; ADD 3 2 2; OUT 3");
        shortens("COPY 1 2; COPY 3 4; ADD 5 1 3; OUT 5", 1, ".; .; ADD 5 2 4; OUT 5");
        shortens("COPY 1 2; ADD 1 1 1; OUT 1", 1, ".; ADD 1 2 2; OUT 1");
        shortens("COPY 1 2; OUT 1", 1, ".; OUT 2");
        shortens("COPY 1 2; JUMP 1 0; OUT 1", 1, ".; JUMP 2 0; OUT 2");
        shortens("COPY 1 2; NAME 0 1", 1, ".; NAME 0 2");
        // What is no register stays: c, k, v and the register that is written.
        shortens("COPY 1 2; SET 3 1; OUT 3", 1, ".; SET 3 1; OUT 3");
        shortens("COPY 1 2; JUMP 3 1", 1, ".; JUMP 3 1");
        shortens("COPY 1 2; NAME 1 3", 1, ".; NAME 1 3");
        shortens("COPY 1 2; SET 1 1; OUT 1", 1, ".; SET 1 1; OUT 1");
    }

    private static void theProgramAtFirst() {
        Checks.sentence("THE SHORT PROGRAM is the program at first");
        stays("");
        stays("OUT 0; JUMP 0 0; NAME 0 0");
        stays("SET 0 1; ADD 1 0 0; OUT 1; JUMP 5 16; NAME 2 5");
    }

    private static void everyLineIsReached() {
        Checks.sentence("Line q is NEXT TO p if it can come next: the one behind, and for JUMP also k");
        // The register is 0 whenever the jump is done; the line behind counts all the same.
        stays("SET 0 0; JUMP 0 3; SET 1 5; OUT 1");
        stays("JUMP 0 0; SET 1 5; OUT 1");
        stays("JUMP 0 16; SET 1 5; OUT 1");
    }

    private static void everyWay() {
        Checks.sentence("on every way to p there is a line COPY s u");
        stays("JUMP 0 2; COPY 1 2; OUT 1");
        shortens("COPY 1 2; JUMP 0 3; COPY 1 2; OUT 1", 1, ".; JUMP 0 3; .; OUT 2");
        stays("COPY 1 2; JUMP 0 3; COPY 1 3; OUT 1");
        stays("COPY 1 2; OUT 1; SET 2 7; JUMP 0 1; OUT 2");
        shortens("COPY 1 2; OUT 1; ADD 3 1 3; JUMP 3 1", 1, ".; OUT 2; ADD 3 2 3; JUMP 3 1");
        shortens("COPY 1 2; JUMP 0 16; OUT 1", 1, ".; JUMP 0 16; OUT 2");
    }

    private static void theWayOfNoLines() {
        Checks.sentence("WAYS go from line 0: to line 0 there is one without any COPY");
        stays("OUT 1; COPY 1 2; JUMP 0 0");
        stays("JUMP 1 1; OUT 1; COPY 1 2; JUMP 0 0");
    }

    private static void neitherIsWritten() {
        Checks.sentence("behind which, before p, neither s nor u is written");
        shortens("COPY 1 2; SET 1 5; OUT 1", 1, ".; SET 1 5; OUT 1");
        stays("COPY 1 2; SET 2 5; OUT 1; OUT 2");
        shortens("COPY 1 2; ADD 1 3 3; OUT 1", 1, ".; ADD 1 3 3; OUT 1");
        stays("COPY 1 2; ADD 2 3 3; OUT 1; OUT 2");
        shortens("COPY 1 2; COPY 1 3; SET 3 0; OUT 1; OUT 3", 1, ".; COPY 1 3; SET 3 0; OUT 1; OUT 3");
        stays("COPY 1 2; COPY 2 3; SET 3 0; OUT 1; OUT 2; OUT 3");
        shortens("COPY 1 2; ADD 2 2 1; OUT 1; OUT 2", 1, "COPY 1 2; ADD 2 2 2; OUT 1; OUT 2");
        shortens("COPY 1 2; SET 3 1; OUT 1; OUT 3", 1, ".; SET 3 1; OUT 2; OUT 3");
        shortens("COPY 1 2; SET 2 5; COPY 1 2; OUT 1; OUT 2", 1, ".; SET 2 5; .; OUT 2; OUT 2");
        // At the COPY itself it does not hold yet.
        shortens("OUT 1; COPY 1 2; OUT 2", 1, "OUT 1; .; OUT 2");
    }

    private static void notACopyOfItself() {
        Checks.sentence("u not being s");
        shortens("SET 1 4; COPY 1 1; OUT 1", 1, "SET 1 4; .; OUT 1");
        // COPY 1 1 writes 1, so that COPY 1 2 holds behind it only when it is gone.
        shortens("COPY 1 2; COPY 1 1; OUT 1", 2, ".; .; OUT 2");
    }

    private static void lookedUpBeforeChanged() {
        Checks.sentence("All are looked up before any is changed");
        shortens("COPY 1 0; COPY 2 1; OUT 2", 2, ".; .; OUT 0");
        shortens("COPY 1 0; COPY 2 1; COPY 3 2; OUT 3", 2, ".; .; .; OUT 0");
        shortens("COPY 1 0; COPY 2 1; COPY 3 2; COPY 4 3; OUT 4", 3, ".; .; .; .; OUT 0");
    }

    private static void copiesOntoThemselves() {
        Checks.sentence("COPY r r becomes EMPTY then");
        shortens("COPY 1 1; OUT 1", 1, ".; OUT 1");
        shortens("COPY 1 1", 1, ".");
        shortens("COPY 1 2; COPY 2 1; SET 1 0; OUT 1; OUT 2", 1, ".; .; SET 1 0; OUT 1; OUT 2");
        shortens("COPY 1 0; COPY 0 1; OUT 0", 2, ".; .; OUT 0");
    }

    private static void liveBehind() {
        Checks.sentence("Each SET, COPY and ADD of a register that is not live behind it becomes EMPTY");
        shortens("SET 0 1", 1, ".");
        shortens("COPY 0 1", 1, ".");
        shortens("ADD 0 1 2", 1, ".");
        shortens("OUT 0; SET 0 1", 1, "OUT 0; .");
        // Another register's reader, and lines of other kinds.
        shortens("SET 0 1; OUT 1", 1, ".; OUT 1");
        stays("OUT 0; JUMP 0 2; NAME 0 0");
    }

    private static void thisOneItself() {
        Checks.sentence("leads to a line (perhaps this one itself) that reads s");
        stays("SET 0 1; OUT 0");
        stays("SET 0 1; JUMP 0 2");
        stays("SET 0 1; ADD 1 0 2; OUT 1");
        stays("SET 0 1; ADD 1 2 0; OUT 1");
        stays("SET 0 1; ADD 0 0 0; OUT 0");
        stays("SET 0 1; COPY 1 0; SET 0 2; OUT 0; OUT 1");
    }

    private static void notByName() {
        Checks.sentence("that reads s, not by NAME");
        shortens("SET 0 1; NAME 0 0", 1, ".; NAME 0 0");
        stays("SET 0 1; NAME 0 0; OUT 0");
        shortens("ADD 0 1 1; NAME 0 0; SET 0 1; OUT 0", 1, ".; NAME 0 0; SET 0 1; OUT 0");
    }

    private static void noLineBeforeWrites() {
        Checks.sentence("no line before that on the way writes s");
        shortens("SET 0 1; SET 0 2; OUT 0", 1, ".; SET 0 2; OUT 0");
        shortens("SET 0 1; ADD 0 1 1; OUT 0", 1, ".; ADD 0 1 1; OUT 0");
        shortens("SET 0 1; COPY 0 1; SET 1 5; OUT 0; OUT 1", 1, ".; COPY 0 1; SET 1 5; OUT 0; OUT 1");
    }

    private static void liveOnSomeWay() {
        Checks.sentence("from a line next to p some way leads to a line");
        stays("SET 0 1; JUMP 1 3; SET 0 2; OUT 0");
        stays("SET 0 1; JUMP 1 16; OUT 0");
        stays("ADD 3 3 3; JUMP 0 0");
        stays("SET 1 5; OUT 2; ADD 2 1 1; JUMP 2 1");
        stays("OUT 2; SET 2 1; JUMP 1 0");
        shortens("JUMP 1 0; OUT 2; SET 2 1", 1, "JUMP 1 0; OUT 2; .");
    }

    private static void liveAtTheEnd() {
        Checks.sentence("Behind the last line, at n, it ends: nothing is live there");
        shortens("OUT 2; SET 2 1; JUMP 1 3", 1, "OUT 2; .; JUMP 1 3");
        shortens("OUT 2; SET 2 1; JUMP 1 16", 1, "OUT 2; .; JUMP 1 16");
        shortens(Programs.times(15, "OUT 2") + "SET 2 1", 1, Programs.times(15, "OUT 2") + ".");
    }

    private static void allAtOnce() {
        Checks.sentence("becomes EMPTY, all at once");
        shortens("SET 0 1; SET 1 1; ADD 2 1 1", 2, ".; .; .");
        // In a loop, where what was read in the round before must not be thought live for ever.
        shortens("SET 1 5; ADD 3 1 1; JUMP 0 1", 2, ".; .; JUMP 0 1");
        shortens("SET 0 1; ADD 1 0 0", 2, ".; .");
        shortens("SET 0 1; ADD 1 0 0; ADD 2 1 1; ADD 3 2 2", 4, ".; .; .; .");
    }

    private static void rounds() {
        Checks.sentence("Promise 9: answers how many rounds changed something");
        shortens("OUT 0", 0, "OUT 0");
        shortens("SET 0 1", 1, ".");
        shortens("COPY 1 0; COPY 2 1; COPY 3 2; COPY 4 3; COPY 5 4; OUT 5", 3, ".; .; .; .; .; OUT 0");
        shortens("SET 0 7; NAME 0 0; COPY 1 0; NAME 1 1; ADD 2 1 1; SET 0 3; OUT 2; NAME 2 2; OUT 1", 2,
                "SET 0 7; NAME 0 0; .; NAME 1 0; ADD 2 0 0; .; OUT 2; NAME 2 2; OUT 0");
    }

    private static void mostRounds() {
        Checks.sentence("changed by ROUNDS as long as these change something: one for each of 16 lines");
        String sums = Programs.times(7, "ADD 1 0 0; ADD 0 1 1");
        shortens("SET 0 1; " + sums + "ADD 1 0 0", 16, Programs.times(15, ".") + ".");
        stays("SET 0 1; " + sums + "OUT 0");
    }

    private static void shortenWithoutLines() {
        Checks.sentence("Promise 9: Makes the short program, of no lines too");
        TracedCode x = new TracedCode();
        Checks.due("shorten", 0, () -> x.shorten());
        Checks.due("kept", 0, () -> x.kept());
        Checks.due("shorten again", 0, () -> x.shorten());
    }

    private static void shortenBeginsARun() {
        Checks.sentence("Promise 9: and begins a run");
        TracedCode x = Programs.run("SET 0 7; NAME 0 0; OUT 0", 3);
        x.shorten();
        Checks.due("line", 0, () -> x.line());
        Checks.due("register", 0, () -> x.register(0, false));
        Checks.due("short register", 0, () -> x.register(0, true));
        Checks.due("output", Wrong.INDEX, () -> x.output(0, false));
        Checks.due("short output", Wrong.INDEX, () -> x.output(0, true));
        Checks.due("value", Wrong.STATE, () -> x.value(0));
        TracedCode looping = Programs.run("JUMP 0 0", 201);
        looping.shorten();
        for (int i = 1; i <= 200; i++) {
            Checks.due("step " + i + " after 200 and shorten", 0, () -> looping.step());
        }
        Checks.due("step 201 after 200 and shorten", -1, () -> looping.step());
    }

    private static void shorteningAnew() {
        Checks.sentence("Promise 9: Makes the short program of the program, not of the short one");
        TracedCode x = Programs.run("COPY 1 2; OUT 1", 1);
        Checks.due("shorten again", 1, () -> x.shorten());
        Checks.same("the short program again", ".; OUT 2", Programs.brief(x));
        Programs.onto(x, "SET 2 1; JUMP 1 0");
        Checks.due("shorten with lines more", 1, () -> x.shorten());
        Checks.same("with lines more", "COPY 1 2; OUT 2; SET 2 1; JUMP 1 0", Programs.brief(x));
    }

    private static void kept() {
        Checks.sentence("Promise 10: How many lines of the short program are not EMPTY");
        Checks.due("kept", 2, () -> Programs.shortened("SET 0 1; OUT 1; COPY 2 3; NAME 0 2").kept());
        Checks.due("kept of no lines", 0, () -> Programs.shortened("").kept());
        Checks.due("kept of EMPTY lines", 0, () -> Programs.shortened("SET 0 1; SET 1 1").kept());
        Checks.due("kept of 16 EMPTY lines", 0, () -> Programs.shortened(Programs.times(16, "SET 0 1")).kept());
        String[] kinds = {"SET 0 1; OUT 0", "ADD 0 1 2; OUT 0", "OUT 0; OUT 0", "JUMP 0 0; OUT 0", "NAME 0 0; OUT 0"};
        for (String kind : kinds) {
            Checks.due("kept of " + kind, 2, () -> Programs.shortened(kind).kept());
            Checks.due("kept of 16", 16, () -> Programs.shortened(kind + "; " + Programs.times(14, "OUT 0")).kept());
        }
    }

    private static void keptWithoutShortProgram() {
        Checks.sentence("Promise 10: IllegalStateException when there is none");
        Checks.due("kept of a new object", Wrong.STATE, () -> new TracedCode().kept());
        Checks.due("kept before shorten", Wrong.STATE, () -> Programs.written("OUT 0").kept());
    }

    private static void parts() {
        Checks.sentence("Promise 11: 0 its kind, 1, 2, 3 what stands behind it; 0 when nothing does");
        TracedCode x = Programs.shortened("SET 1 -9; ADD 2 1 3; OUT 2; JUMP 2 16; NAME 2 1; COPY 4 5; COPY 0 3; SET 3 1; OUT 0; OUT 3");
        int[][] want = {{0, 1, -9, 0}, {2, 2, 1, 3}, {3, 2, 0, 0}, {4, 2, 16, 0}, {5, 2, 1, 0}, {-1, 0, 0, 0},
            {1, 0, 3, 0}, {0, 3, 1, 0}, {3, 0, 0, 0}, {3, 3, 0, 0}};
        for (int line = 0; line < want.length; line++) {
            for (int i = 0; i < 4; i++) {
                int l = line;
                int place = i;
                Checks.due("part(" + l + ", " + place + ")", want[l][place], () -> x.part(l, place));
            }
        }
    }

    private static void partsOfEmptyLines() {
        Checks.sentence("Promise 11: NONE when EMPTY; 0 in EMPTY lines");
        String[] dead = {"SET 5 7", "COPY 5 4", "COPY 5 5", "ADD 5 4 3"};
        for (String line : dead) {
            TracedCode x = Programs.shortened(line);
            for (int i = 0; i < 4; i++) {
                int place = i;
                Checks.due("part " + i + " of " + line, i == 0 ? TracedCode.NONE : 0, () -> x.part(0, place));
            }
        }
    }

    private static void partsWithoutShortProgram() {
        Checks.sentence("Promise 11: IllegalStateException when there is none");
        Checks.due("part of a new object", Wrong.STATE, () -> new TracedCode().part(0, 0));
        Checks.due("part before shorten", Wrong.STATE, () -> Programs.written("OUT 0").part(0, 0));
        Checks.due("part nowhere before shorten", Wrong.STATE, () -> Programs.written("OUT 0").part(-1, 9));
    }

    private static void partsOfNoLine() {
        Checks.sentence("Promise 11: IndexOutOfBoundsException when there is no such line");
        for (int n = 0; n <= 16; n++) {
            TracedCode x = Programs.shortened(Programs.times(n, "OUT 1"));
            int last = n - 1;
            if (n > 0) {
                Checks.due("the last of " + n, 3, () -> x.part(last, 0));
            }
            for (int line : Wrong.besides(n)) {
                if (line < 0 || line >= n) {
                    Checks.due("line " + line + " of " + n, Wrong.INDEX, () -> x.part(line, 0));
                    Checks.due("line " + line + " of " + n, Wrong.INDEX, () -> x.part(line, 3));
                }
            }
        }
        TracedCode less = Programs.written(Programs.times(16, "OUT 1"));
        less.clear();
        less.out(1);
        less.shorten();
        Checks.due("a line that there was", Wrong.INDEX, () -> less.part(1, 0));
    }

    private static void partsOfNoPlace() {
        Checks.sentence("Promise 11: IndexOutOfBoundsException when there is no such place");
        for (int i : Wrong.PLACES) {
            Checks.due("place " + i, Wrong.INDEX, () -> Programs.shortened("OUT 1").part(0, i));
            Checks.due("place " + i + " of an EMPTY line", Wrong.INDEX, () -> Programs.shortened("SET 1 1").part(0, i));
        }
    }
}
