import java.lang.reflect.Method;
import java.util.ArrayList;
import java.util.HashMap;
import java.util.List;
import java.util.Map;
import java.util.Random;

/** Random runs of calls, each asked of MendedWebs and of NaiveWebs; told whole where they differ. */
public final class AgainstNaiveTest {
    private static final Map<String, Method> OURS = methods(MendedWebs.class);
    private static final Map<String, Method> NAIVE = methods(NaiveWebs.class);
    private static final int[] EDGES = {Integer.MIN_VALUE, Integer.MIN_VALUE + 1, -1001, -1000, -256, -6, -3, -2, -1, 0, 0, 1, 1, 2, 3, 4, 5, 6, 8, 9,
        10, 11, 12, 13, 22, 23, 24, 25, 31, 32, 33, 63, 64, 65, 99, 100, 101, 199, 200, 201, 254, 255, 256, 380, 381, 399, 400, 401, 499, 500,
        501, 999, 1000, 1001, 999999, 1000000, 1000001, (1 << 24) - 1, 1 << 24, 1 << 30, Integer.MAX_VALUE - 1, Integer.MAX_VALUE};
    private static final String[] QUERIES = {"holds", "bears", "asked", "cell", "way", "seen", "all", "out", "spread",
        "fault", "status"};

    private static final String[] KINDS = {"of all", "of again", "of edges"};
    private static final int OF_AGAIN = 1;
    private static final int OF_EDGES = 2;

    private final Random random;
    private final RandomTexts texts;
    private final MendedWebs ours = new MendedWebs();
    private final NaiveWebs naive = new NaiveWebs();
    private final List<String> told = new ArrayList<>();
    private boolean failed = false;
    private int calls = 0;

    private AgainstNaiveTest(long seed) {
        random = new Random(seed);
        texts = new RandomTexts(random);
    }

    private static Map<String, Method> methods(Class<?> of) {
        Map<String, Method> map = new HashMap<>();
        for (Method m : of.getDeclaredMethods())
            if (java.lang.reflect.Modifier.isPublic(m.getModifiers())) map.put(m.getName(), m);
        return map;
    }

    private int call(String name, int... args) {
        Object[] boxed = new Object[args.length];
        for (int i = 0; i < args.length; i++) boxed[i] = args[i];
        calls++;
        try {
            int want = (Integer) NAIVE.get(name).invoke(naive, boxed);
            int got = (Integer) OURS.get(name).invoke(ours, boxed);
            told.add(name + java.util.Arrays.toString(args) + " -> " + got + (got == want ? "" : " due " + want));
            if (got != want) failed = true;
            return want;
        } catch (ReflectiveOperationException e) {
            e.printStackTrace();
            throw new IllegalStateException(name + " " + told, e);
        }
    }

    private void tape(int[] bytes) {
        call("end", 0);
        for (int i = 0; i < bytes.length; i += 20)
            call("feed", Checks.four(bytes, i), Checks.four(bytes, i + 4), Checks.four(bytes, i + 8),
                Checks.four(bytes, i + 12), Checks.four(bytes, i + 16));
        if (bytes.length <= 400) call("end", bytes.length);
    }

    private void text(boolean lines, boolean good) {
        String t = lines ? texts.lines() : texts.laws();
        if (!good) {
            int how = random.nextInt(3);
            if (how == 0) t = texts.spoilt(t);
            else if (how == 1) t = texts.extreme(lines);
        }
        told.add(t);
        tape(t.chars().toArray());
        call(lines ? "lines" : "laws");
        call("fault");
        call("status");
    }

    private int some(int from, int to) {
        // Now and then a number just outside, or far outside.
        int r = random.nextInt(30);
        if (r == 0) return from - 1;
        if (r == 1) return to + 1;
        if (r == 2 && random.nextInt(4) == 0) return random.nextInt();
        return from + random.nextInt(to - from + 1);
    }

    private int valueFor(int cell) {
        boolean number = cell >= 3 && cell <= 5 || cell >= 6 && cell % 3 == 2;
        return number ? some(0, 9) : some(-1, 5);
    }

    private void query() {
        String name = QUERIES[random.nextInt(QUERIES.length)];
        int steps = Math.max(1, call("all", 0));
        switch (name) {
            case "holds": case "asked": call(name, some(0, 4)); break;
            case "bears": call(name, some(0, 7)); break;
            case "cell": call(name, some(0, 23), some(0, 3)); break;
            case "way": call(name, some(0, 2), some(0, 6)); break;
            case "seen": call(name, some(0, 4), some(0, 2)); break;
            case "all": call(name, some(0, 8)); break;
            case "out": call(name, random.nextBoolean() ? some(0, 10) : some(90, 110)); break;
            case "spread": call(name, some(0, 23), random.nextBoolean() ? some(0, steps) : some(steps - 20, steps)); break;
            default: call(name);
        }
    }

    private void everything() {
        for (int i = 0; i < 24; i++) for (int w = 0; w < 4; w++) call("cell", i, w);
        for (int i = 0; i < 9; i++) call("all", i);
        for (int i = 0; i < 12; i++) for (int w = 0; w < 3; w++) call("seen", i, w);
        for (int i = 0; i < 12; i++) call("asked", i);
    }

    private int cells(int three) {
        int r = random.nextInt(100);
        if (r < 2) return some(1, 3);
        return r < three ? 3 : r < 55 ? 2 : 1;
    }

    private void mend(int three) {
        int m = cells(three);
        int count = call("least", m, 1);
        if (random.nextInt(3) == 0) call("least", m, some(0, 2));
        int times = random.nextInt(4);
        for (int i = 0; i < times; i++) call("mends", m, some(0, Math.max(1, Math.min(count, 501))), some(0, 2), some(0, 1));
        if (random.nextBoolean()) call("mend", m, random.nextBoolean() ? -1 : some(-1, Math.max(0, count)));
    }

    private void one(int three) {
        int r = random.nextInt(8) == 0 ? 50 : random.nextInt(100);
        int steps = call("all", 0);
        if (r < 6) text(random.nextBoolean(), random.nextInt(3) > 0);
        else if (r < 16) { int c = some(0, 23); call("flip", c, valueFor(c)); }
        else if (r < 19) rowOfBytes();
        else if (r < 22) call("lots", random.nextBoolean() ? 0 : some(0, 1000), some(0, 1000000));
        else if (r < 25) call("watch", some(0, 3));
        else if (r < 27) call("routine", some(0, 4), some(0, 6));
        else if (r < 42) call("step", random.nextInt(4) == 0 ? some(1, 64) : some(1, 5));
        else if (r < 44) call("price", some(0, 4), some(1, 9));
        else if (r < 46) call("copy");
        else if (r < 48) call("weighty", some(0, (1 << 24) - 1));
        else if (r < 56) mend(three);
        else if (r < 58) call("sure", some(0, 23));
        else if (r < 62) call("again", random.nextBoolean() ? some(0, Math.max(1, steps)) : some(Math.max(0, steps - 12), Math.max(1, steps)));
        else if (r < 65) { int n = some(1, 24); for (int w = 0; w < 4; w++) call("putIn", n, w); }
        else if (r < 67) call("image", some(0, 1));
        else if (r < 69) call("back", some(0, 1));
        else query();
        if (random.nextInt(4) == 0) call("status");
    }

    /** Steps done again and again, so that steps go amiss, well and amiss anew. */
    private void oneOfAgain() {
        int r = random.nextInt(100);
        int steps = call("all", 0);
        if (r < 2) text(true, true);
        else if (r < 14) { int c = some(0, 23); call("flip", c, valueFor(c)); }
        else if (r < 18) call("lots", random.nextBoolean() ? 0 : some(0, 1000), some(0, 1000000));
        else if (r < 44) call("step", random.nextInt(8) == 0 ? some(1, 64) : some(1, 6));
        else if (r < 50) call("mend", 1, some(-1, 2));
        else if (r < 52) call("sure", some(0, 23));
        else if (r < 80) call("again", random.nextInt(4) == 0 ? some(0, Math.max(1, steps)) : some(Math.max(0, steps - 12), Math.max(1, steps)));
        else if (r < 83) call("image", some(0, 1));
        else if (r < 85) call("back", some(0, 1));
        else query();
    }

    /** Any call with any arguments, most of them at some edge. */
    private void oneOfEdges(int three) {
        List<String> names = new ArrayList<>(new java.util.TreeSet<>(OURS.keySet()));
        String name = names.get(random.nextInt(names.size()));
        int[] args = new int[OURS.get(name).getParameterCount()];
        for (int i = 0; i < args.length; i++) args[i] = random.nextInt(20) == 0 ? random.nextInt() : EDGES[random.nextInt(EDGES.length)];
        boolean ofMends = name.equals("least") || name.equals("mends") || name.equals("mend");
        // The twin tries every mend: by three cells now and then only.
        if (ofMends && random.nextInt(4) > 0) args[0] = cells(three);
        if (ofMends && args[0] == 3 && random.nextInt(100) >= three) args[0] = 2;
        call(name, args);
    }

    private void rowOfBytes() {
        int n = random.nextInt(8) == 0 ? random.nextInt(30) : 1 + random.nextInt(6);
        int[] bytes = new int[n];
        for (int i = 0; i < n; i++) bytes[i] = random.nextInt(4) == 0 ? 255 : random.nextInt(11);
        tape(bytes);
        call("row", some(0, 23));
        call("feed", 1, 2, 3, 4, 5);
    }

    /** Most runs begin with a web that has something in it, some with prices that make many mends alike. */
    private void prepare() {
        if (random.nextInt(4) > 0) {
            int[] bytes = new int[24];
            for (int i = 0; i < 24; i++) bytes[i] = random.nextInt(6) == 0 ? 255 : random.nextInt(6);
            tape(bytes);
            call("row", 0);
        }
        if (random.nextInt(3) == 0) {
            for (int kind = 0; kind < 5; kind++) call("price", kind, 1 + random.nextInt(2));
        }
    }

    private boolean go(int most, int three, int kind) {
        text(false, true);
        text(true, true);
        prepare();
        while (calls < most && !failed) {
            if (kind == OF_AGAIN) oneOfAgain();
            else if (kind == OF_EDGES && random.nextBoolean()) oneOfEdges(three);
            else one(three);
        }
        if (!failed) everything();
        if (failed) for (String t : told) System.out.println("  " + t);
        return !failed;
    }

    /** Arguments: the first seed, how many runs, how many of a hundred mends are by three cells. */
    public static void main(String[] args) {
        long first = args.length > 0 ? Long.parseLong(args[0]) : 1;
        int runs = args.length > 1 ? Integer.parseInt(args[1]) : 250;
        int three = args.length > 2 ? Integer.parseInt(args[2]) : 4;
        for (long seed = first; seed < first + runs; seed++) {
            boolean fine = true;
            for (int kind = 0; kind < KINDS.length && fine; kind++) {
                fine = new AgainstNaiveTest(seed).go(330, three, kind);
                Checks.due("run " + KINDS[kind] + " " + seed, fine ? 1 : 0, 1);
            }
            if (!fine) break;
        }
        Checks.close();
    }
}
