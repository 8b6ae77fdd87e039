/** Promises 9 to 11: shorten, kept, part. */
public final class ShortenTest {
    private static final String STATE = "throws.IllegalStateException";
    private static final String INDEX = "throws.IndexOutOfBoundsException";

    public static void main(String[] args) {
        passingCopiesOn();
        copiesThatDoNotHold();
        copiesOnSeveralWays();
        copiesOntoThemselves();
        leavingOutDead();
        liveInLoops();
        rounds();
        shorteningAnew();
        kept();
        parts();
        Checks.finish();
    }

    private static void shortens(String program, int rounds, String brief) {
        TracedCode x = Programs.written(program);
        Checks.due("shorten of " + program, rounds, () -> x.shorten());
        Checks.same("the short program of " + program, brief, Programs.brief(x));
    }

    private static void passingCopiesOn() {
        shortens("COPY 1 2; OUT 1", 1, ".; OUT 2");
        shortens("COPY 1 2; JUMP 1 0; OUT 1", 1, ".; JUMP 2 0; OUT 2");
        shortens("COPY 1 2; ADD 3 1 1; OUT 3", 1, ".; ADD 3 2 2; OUT 3");
        shortens("COPY 1 2; COPY 3 4; ADD 5 1 3; OUT 5", 1, ".; .; ADD 5 2 4; OUT 5");
        shortens("COPY 1 2; NAME 0 1", 1, ".; NAME 0 2");
        shortens("COPY 1 2; ADD 1 1 1; OUT 1", 1, ".; ADD 1 2 2; OUT 1");
        shortens("COPY 1 2; SET 3 1; OUT 1; OUT 3", 1, ".; SET 3 1; OUT 2; OUT 3");
    }

    private static void copiesThatDoNotHold() {
        shortens("COPY 1 2; SET 2 5; OUT 1; OUT 2", 0, "COPY 1 2; SET 2 5; OUT 1; OUT 2");
        shortens("COPY 1 2; ADD 2 2 1; OUT 1; OUT 2", 1, "COPY 1 2; ADD 2 2 2; OUT 1; OUT 2");
        shortens("COPY 1 2; ADD 1 3 3; OUT 1", 1, ".; ADD 1 3 3; OUT 1");
        shortens("COPY 1 2; COPY 2 3; OUT 1; SET 3 1; OUT 2; OUT 3", 0,
                "COPY 1 2; COPY 2 3; OUT 1; SET 3 1; OUT 2; OUT 3");
        shortens("OUT 1; COPY 1 2; OUT 2", 1, "OUT 1; .; OUT 2");
    }

    private static void copiesOnSeveralWays() {
        shortens("JUMP 0 2; COPY 1 2; OUT 1", 0, "JUMP 0 2; COPY 1 2; OUT 1");
        shortens("COPY 1 2; JUMP 0 3; COPY 1 2; OUT 1", 1, ".; JUMP 0 3; .; OUT 2");
        shortens("COPY 1 2; JUMP 0 3; COPY 1 3; OUT 1", 0, "COPY 1 2; JUMP 0 3; COPY 1 3; OUT 1");
        shortens("COPY 1 2; OUT 1; SET 2 7; JUMP 0 1; OUT 2", 0,
                "COPY 1 2; OUT 1; SET 2 7; JUMP 0 1; OUT 2");
        shortens("COPY 1 2; OUT 1; ADD 3 1 3; JUMP 3 1", 1, ".; OUT 2; ADD 3 2 3; JUMP 3 1");
        // The way that has come to line 0 only now has not met the copy behind it.
        shortens("OUT 1; COPY 1 2; JUMP 0 0", 0, "OUT 1; COPY 1 2; JUMP 0 0");
    }

    private static void copiesOntoThemselves() {
        shortens("COPY 1 1; OUT 1", 1, ".; OUT 1");
        shortens("COPY 1 0; COPY 0 1; OUT 0", 2, ".; .; OUT 0");
        shortens("COPY 1 2; COPY 1 1; OUT 1", 2, ".; .; OUT 2");
    }

    private static void leavingOutDead() {
        shortens("SET 0 1", 1, ".");
        shortens("COPY 0 1", 1, ".");
        shortens("ADD 0 1 2", 1, ".");
        shortens("SET 0 1; OUT 0", 0, "SET 0 1; OUT 0");
        shortens("SET 0 1; JUMP 0 2", 0, "SET 0 1; JUMP 0 2");
        shortens("SET 0 1; NAME 0 0", 1, ".; NAME 0 0");
        shortens("SET 0 1; SET 0 2; OUT 0", 1, ".; SET 0 2; OUT 0");
        shortens("SET 0 1; JUMP 1 3; SET 0 2; OUT 0", 0, "SET 0 1; JUMP 1 3; SET 0 2; OUT 0");
        shortens("SET 0 1; JUMP 1 16; OUT 0", 0, "SET 0 1; JUMP 1 16; OUT 0");
        shortens("SET 0 1; ADD 0 0 0; OUT 0", 0, "SET 0 1; ADD 0 0 0; OUT 0");
        // Of the program as it was before: the second line still reads what the first writes.
        shortens("SET 0 1; ADD 1 0 0", 2, ".; .");
    }

    private static void liveInLoops() {
        shortens("ADD 3 3 3", 1, ".");
        shortens("ADD 3 3 3; JUMP 0 0", 0, "ADD 3 3 3; JUMP 0 0");
        shortens("SET 1 5; OUT 2; ADD 2 1 1; JUMP 2 1", 0, "SET 1 5; OUT 2; ADD 2 1 1; JUMP 2 1");
        shortens("OUT 2; SET 2 1; JUMP 1 0", 0, "OUT 2; SET 2 1; JUMP 1 0");
        shortens("OUT 2; SET 2 1; JUMP 1 3", 1, "OUT 2; .; JUMP 1 3");
    }

    private static void rounds() {
        shortens("", 0, "");
        shortens("OUT 0; JUMP 0 0; NAME 0 0", 0, "OUT 0; JUMP 0 0; NAME 0 0");
        // All are looked up before any is changed: one link of the chain a round, and a round for
        // each line that is dead only when the next one is gone.
        shortens("COPY 1 0; COPY 2 1; COPY 3 2; OUT 3", 2, ".; .; .; OUT 0");
        shortens("SET 0 1; ADD 1 0 0; ADD 2 1 1; ADD 3 2 2", 4, ".; .; .; .");
        shortens("SET 0 7; NAME 0 0; COPY 1 0; NAME 1 1; ADD 2 1 1; SET 0 3; OUT 2; NAME 2 2; OUT 1", 2,
                "SET 0 7; NAME 0 0; .; NAME 1 0; ADD 2 0 0; .; OUT 2; NAME 2 2; OUT 0");
    }

    private static void shorteningAnew() {
        TracedCode x = Programs.shortened("COPY 1 2; OUT 1");
        x.step();
        Checks.due("shorten again", 1, () -> x.shorten());
        Checks.due("line then", 0, () -> x.line());
        Checks.same("the short program again", ".; OUT 2", Programs.brief(x));
        Programs.append(x, "SET 2 1");
        Programs.append(x, "JUMP 1 0");
        Checks.due("shorten with lines more", 1, () -> x.shorten());
        Checks.same("out of the program, not the short one", "COPY 1 2; OUT 2; SET 2 1; JUMP 1 0", Programs.brief(x));
    }

    private static void kept() {
        Checks.due("kept before shorten", STATE, () -> Programs.written("OUT 0").kept());
        Checks.due("kept", 2, () -> Programs.shortened("SET 0 1; OUT 1; COPY 2 3; NAME 0 2").kept());
        Checks.due("kept of nothing", 0, () -> Programs.shortened("SET 0 1; SET 1 1").kept());
    }

    private static void parts() {
        TracedCode x = Programs.written("SET 1 -9; ADD 2 1 3; OUT 2; JUMP 2 16; NAME 2 1; COPY 4 5; COPY 0 3; SET 3 1; OUT 0; OUT 3");
        Checks.due("part before shorten", STATE, () -> x.part(0, 0));
        Checks.due("part nowhere before shorten", STATE, () -> x.part(-1, 9));
        x.shorten();
        int[][] want = {{0, 1, -9, 0}, {2, 2, 1, 3}, {3, 2, 0, 0}, {4, 2, 16, 0}, {5, 2, 1, 0}, {-1, 0, 0, 0},
            {1, 0, 3, 0}, {0, 3, 1, 0}, {3, 0, 0, 0}, {3, 3, 0, 0}};
        for (int line = 0; line < want.length; line++) {
            for (int i = 0; i < 4; i++) {
                int l = line;
                int place = i;
                Checks.due("part(" + l + ", " + place + ")", want[l][place], () -> x.part(l, place));
            }
        }
        Checks.due("part of line -1", INDEX, () -> x.part(-1, 0));
        Checks.due("part of the end", INDEX, () -> x.part(10, 0));
        Checks.due("part of line 16", INDEX, () -> x.part(16, 0));
        Checks.due("part of a far line", INDEX, () -> x.part(Integer.MAX_VALUE, 0));
        Checks.due("part at -1", INDEX, () -> x.part(0, -1));
        Checks.due("part at 4", INDEX, () -> x.part(0, 4));
        Checks.due("part of nothing", INDEX, () -> x.part(Integer.MIN_VALUE, Integer.MIN_VALUE));
    }
}
