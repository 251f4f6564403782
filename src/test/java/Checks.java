/** Counts what is due and what is not; feeds texts and rows to a web. */
public final class Checks {
    private static int passed = 0;
    private static int failed = 0;

    private Checks() { }

    public static void due(String what, long got, long want) {
        if (got == want) {
            passed++;
            return;
        }
        failed++;
        System.out.println(what + " answered " + got + ", due is " + want);
    }

    /** Prints the counts in the form that CI reads and ends with 1 if anything failed. */
    public static void close() {
        System.out.println(passed + " passed, " + failed + " failed");
        if (failed != 0) System.exit(1);
    }

    public static int failures() {
        return failed;
    }

    /** The tape becomes these bytes. */
    public static void feed(MendedWebs x, int... bytes) {
        x.end(0);
        for (int i = 0; i < bytes.length; i += 20)
            x.feed(four(bytes, i), four(bytes, i + 4), four(bytes, i + 8), four(bytes, i + 12), four(bytes, i + 16));
        x.end(bytes.length);
    }

    public static int four(int[] bytes, int from) {
        int n = 0;
        for (int i = from; i < from + 4; i++) n = n << 8 | (i < bytes.length ? bytes[i] & 255 : 0);
        return n;
    }

    public static void text(MendedWebs x, String text) {
        feed(x, text.chars().toArray());
    }

    public static int laws(MendedWebs x, String text) {
        text(x, text);
        return x.laws();
    }

    public static int lines(MendedWebs x, String text) {
        text(x, text);
        return x.lines();
    }

    public static int row(MendedWebs x, int cell, int... bytes) {
        feed(x, bytes);
        return x.row(cell);
    }

    /** A web with these texts; an empty one is left out. */
    public static MendedWebs web(String laws, String lines) {
        MendedWebs x = new MendedWebs();
        if (!laws.isEmpty()) due("laws of " + laws, laws(x, laws), laws.split(";").length);
        if (!lines.isEmpty()) due("lines of " + lines, lines(x, lines), lines.split(";").length);
        return x;
    }
}
