/** The names of exceptions, and numbers just beside and far from those that are taken. */
public final class Wrong {
    public static final String STATE = "throws.IllegalStateException";
    public static final String ARGUMENT = "throws.IllegalArgumentException";
    public static final String INDEX = "throws.IndexOutOfBoundsException";
    public static final String NOWHERE = "throws.NoSuchElementException";

    public static final int[] REGISTERS = besides(6);
    public static final int[] VARIABLES = besides(3);
    public static final int[] TARGETS = besides(17);
    public static final int[] PLACES = besides(4);

    private Wrong() {
    }

    /** Too small and too large where 0 .. count - 1 are taken. */
    public static int[] besides(int count) {
        return new int[] {-1, count, -2, count + 1, -count, 2 * count + 17, 32, 64, 256, 65536, -65536,
            Integer.MIN_VALUE, Integer.MIN_VALUE + 1, Integer.MAX_VALUE, Integer.MAX_VALUE - 1};
    }
}
