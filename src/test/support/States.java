import java.util.ArrayList;
import java.util.List;

/** Objects in all sorts of states, each made anew by the same calls as often as it is asked for. */
public final class States {
    /** Makes an object of TracedCode. */
    public interface Maker {
        TracedCode make();
    }

    /** A state, and what the document lets one expect of refused calls in it. */
    public static final class State {
        final String title;
        final Maker maker;
        final boolean shortened;
        final int lines;

        State(String title, boolean shortened, int lines, Maker maker) {
            this.title = title;
            this.shortened = shortened;
            this.lines = lines;
            this.maker = maker;
        }
    }

    /** Variable 2 is never named, 0 by both ways, 1 by one alone; line 3 becomes EMPTY. */
    public static final String SOME = "SET 0 7; NAME 0 0; OUT 0; COPY 1 0; ADD 2 1 1; JUMP 5 7; NAME 1 2; OUT 2";
    public static final String SIXTEEN = SOME + "; SET 3 -1; COPY 4 3; NAME 1 4; OUT 3; ADD 0 0 3; OUT 0; NAME 0 0; JUMP 5 3";
    public static final String LOOP = "NAME 0 0; ADD 0 0 1; SET 1 1; OUT 3; JUMP 5 0";

    private States() {
    }

    public static List<State> all() {
        List<State> states = new ArrayList<>();
        states.add(new State("new", false, 0, () -> new TracedCode()));
        states.add(new State("some lines", false, 8, () -> Programs.written(SOME)));
        states.add(new State("sixteen lines", false, 16, () -> Programs.written(SIXTEEN)));
        states.add(new State("cleared", false, 0, () -> cleared(Programs.run(SOME, 5))));
        states.add(new State("a line added in a run", false, 9, () -> added(Programs.run(SOME, 5))));
        states.addAll(shortened());
        return states;
    }

    /** The states in which there is a short program. */
    public static List<State> shortened() {
        List<State> states = new ArrayList<>();
        states.add(new State("no lines, shortened", true, 0, () -> Programs.run("", 0)));
        states.add(new State("no lines, one step", true, 0, () -> Programs.run("", 1)));
        states.add(new State("some lines, shortened", true, 8, () -> Programs.run(SOME, 0)));
        states.add(new State("some lines, in the run", true, 8, () -> Programs.run(SOME, 4)));
        states.add(new State("some lines, at the end", true, 8, () -> Programs.run(SOME, 20)));
        states.add(new State("some lines, restarted", true, 8, () -> restarted(Programs.run(SOME, 6))));
        states.add(new State("sixteen lines, shortened", true, 16, () -> Programs.run(SIXTEEN, 0)));
        states.add(new State("sixteen lines, in the run", true, 16, () -> Programs.run(SIXTEEN, 30)));
        states.add(new State("a loop, 199 steps", true, 5, () -> Programs.run(LOOP, 199)));
        states.add(new State("a loop, 200 steps", true, 5, () -> Programs.run(LOOP, 200)));
        states.add(new State("a loop, beyond 200 steps", true, 5, () -> Programs.run(LOOP, 203)));
        return states;
    }

    private static TracedCode cleared(TracedCode x) {
        x.clear();
        return x;
    }

    private static TracedCode added(TracedCode x) {
        x.out(1);
        return x;
    }

    private static TracedCode restarted(TracedCode x) {
        x.restart();
        return x;
    }
}
