/** Counts what is due and what is not; feeds texts and rows to a web. */
public final class Checks {
    private static int passed = 0;
    private static int failed = 0;
    private static String sentence = "";

    private Checks() { }

    /** What is due from here on is due by this sentence of the document. */
    public static void says(String words) {
        sentence = words + ": ";
    }

    public static void due(String what, long got, long want) {
        if (got == want) {
            passed++;
            return;
        }
        failed++;
        System.out.println(sentence + what + " answered " + got + ", due is " + want);
    }

    /** Prints the counts in the form that CI reads and ends with 1 if anything failed. */
    public static void close() {
        System.out.println(passed + " passed, " + failed + " failed");
        if (failed != 0) System.exit(1);
    }

    public static int failures() {
        return failed;
    }

    /** The tape becomes these bytes. */
    public static void feed(MendedWebs x, int... bytes) {
        x.end(0);
        for (int i = 0; i < bytes.length; i += 20)
            x.feed(four(bytes, i), four(bytes, i + 4), four(bytes, i + 8), four(bytes, i + 12), four(bytes, i + 16));
        x.end(bytes.length);
    }

    public static int four(int[] bytes, int from) {
        int n = 0;
        for (int i = from; i < from + 4; i++) n = n << 8 | (i < bytes.length ? bytes[i] & 255 : 0);
        return n;
    }

    public static void text(MendedWebs x, String text) {
        feed(x, text.chars().toArray());
    }

    public static int laws(MendedWebs x, String text) {
        text(x, text);
        return x.laws();
    }

    public static int lines(MendedWebs x, String text) {
        text(x, text);
        return x.lines();
    }

    public static int row(MendedWebs x, int cell, int... bytes) {
        feed(x, bytes);
        return x.row(cell);
    }

    public static String times(String what, int n) {
        StringBuilder b = new StringBuilder();
        for (int i = 0; i < n; i++) b.append(what);
        return b.toString();
    }

    /** A cell becomes marked, by a mend of a law that it breaks; heads and other cells are not as they were then. */
    public static void mark(MendedWebs x, int cell) {
        int node = (cell - 6) / 3;
        if (cell >= 6) x.flip(0, node);
        if (cell < 3) laws(x, "keep length " + cell + " = " + (x.cell(cell, 0) < 0 ? 1 : 0));
        else if (cell < 6) laws(x, "keep name " + (cell - 3) + " = " + (9 - x.cell(cell, 0)));
        else if (cell % 3 == 0) {
            x.flip(cell, node);
            laws(x, "list 0");
        } else if (cell % 3 == 1) {
            x.flip(cell, node);
            laws(x, "twin 0");
        } else {
            x.flip(cell - 2, -1);
            laws(x, "keep total 0 = " + (9 - x.cell(cell, 0)));
        }
        int which = 0;
        while (which < 20 && x.mends(1, which, 0, 0) != cell) which++;
        x.mend(1, which);
        due("mark of cell " + cell, x.cell(cell, 1), 1);
        laws(x, "keep 1 = 1");
    }

    /** A web with these texts; an empty one is left out. */
    public static MendedWebs web(String laws, String lines) {
        MendedWebs x = new MendedWebs();
        if (!laws.isEmpty()) due("laws of " + laws, laws(x, laws), laws.split(";").length);
        if (!lines.isEmpty()) due("lines of " + lines, lines(x, lines), lines.split(";").length);
        return x;
    }
}
