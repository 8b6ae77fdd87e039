/** Writes programs into objects of TracedCode, and their short programs out, as texts. */
public final class Programs {
    private static final String[] KINDS = {"SET", "COPY", "ADD", "OUT", "JUMP", "NAME"};
    private static final int[] NUMBERS = {2, 2, 3, 1, 2, 2};

    private Programs() {
    }

    /** A new object with the lines of a text, such as "SET 0 7; OUT 0". */
    public static TracedCode written(String text) {
        return onto(new TracedCode(), text);
    }

    /** The lines of a text behind those that an object has. */
    public static TracedCode onto(TracedCode x, String text) {
        for (String line : text.split(";")) {
            if (!line.isBlank()) {
                append(x, line);
            }
        }
        return x;
    }

    /** The text of as many equal lines. */
    public static String times(int count, String line) {
        return (line + "; ").repeat(count);
    }

    /** As written, shortened. */
    public static TracedCode shortened(String text) {
        TracedCode x = written(text);
        x.shorten();
        return x;
    }

    public static int append(TracedCode x, String line) {
        String[] words = line.trim().split(" +");
        int[] n = new int[4];
        for (int i = 1; i < words.length; i++) {
            n[i] = Integer.parseInt(words[i]);
        }
        switch (words[0]) {
            case "SET": return x.set(n[1], n[2]);
            case "COPY": return x.copy(n[1], n[2]);
            case "ADD": return x.add(n[1], n[2], n[3]);
            case "OUT": return x.out(n[1]);
            case "JUMP": return x.jump(n[1], n[2]);
            case "NAME": return x.name(n[1], n[2]);
            default: throw new UnsupportedOperationException(line);
        }
    }

    /** The short program as a text like the ones above; an EMPTY line is written as a dot. */
    public static String brief(TracedCode x) {
        StringBuilder text = new StringBuilder();
        for (int line = 0; hasLine(x, line); line++) {
            text.append(line == 0 ? "" : "; ").append(briefLine(x, line));
        }
        return text.toString();
    }

    private static boolean hasLine(TracedCode x, int line) {
        try {
            x.part(line, 0);
            return true;
        } catch (IndexOutOfBoundsException e) {
            return false;
        }
    }

    private static String briefLine(TracedCode x, int line) {
        int kind = x.part(line, 0);
        StringBuilder text = new StringBuilder(kind == TracedCode.NONE ? "." : KINDS[kind]);
        int numbers = kind == TracedCode.NONE ? 0 : NUMBERS[kind];
        for (int i = 1; i <= 3; i++) {
            if (i <= numbers || x.part(line, i) != 0) {
                text.append(' ').append(x.part(line, i));
            }
        }
        return text.toString();
    }

    /** A run, so many steps after its beginning. */
    public static TracedCode run(String text, int count) {
        TracedCode x = shortened(text);
        steps(x, count);
        return x;
    }

    public static void steps(TracedCode x, int count) {
        for (int i = 0; i < count; i++) {
            x.step();
        }
    }
}
