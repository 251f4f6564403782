import java.lang.reflect.Field;
import java.lang.reflect.Method;
import java.lang.reflect.Modifier;
import java.nio.charset.StandardCharsets;
import java.nio.file.Files;
import java.nio.file.Path;
import java.util.Set;
import java.util.TreeSet;
import java.util.regex.Matcher;
import java.util.regex.Pattern;

/** What of ../shared/LANGUAGE.md can be looked at from outside, and how much room the dearest calls take. */
public final class LanguageTest {
    private static final String[] FACE = {"feed 5", "end 1", "laws 0", "lines 0", "fault 0", "holds 1", "bears 1", "asked 1",
        "cell 2", "way 2", "flip 2", "row 1", "lots 2", "watch 1", "routine 2", "step 1", "seen 2", "all 1", "out 1", "price 2",
        "copy 0", "weighty 1", "least 2", "mends 4", "mend 2", "sure 1", "spread 2", "again 1", "putIn 2", "image 1", "back 1",
        "status 0"};

    private LanguageTest() { }

    private static void due(String what, long got, long want) {
        Checks.due(what, got, want);
    }

    private static void face() {
        Set<String> want = new TreeSet<>(java.util.List.of(FACE));
        Set<String> names = new TreeSet<>();
        Set<String> got = new TreeSet<>();
        for (Method m : MendedWebs.class.getDeclaredMethods()) {
            if (Modifier.isPublic(m.getModifiers())) {
                got.add(m.getName() + " " + m.getParameterCount());
                names.add(m.getName());
                due("rule 1: " + m + " answers int", m.getReturnType() == int.class ? 1 : 0, 1);
            } else {
                due("rule 1: " + m + " is private", Modifier.isPrivate(m.getModifiers()) ? 1 : 0, 1);
            }
        }
        due("rule 1: the face is " + got, got.equals(want) ? 1 : 0, 1);
        due("rule 1: the class is public and final", MendedWebs.class.getModifiers(), Modifier.PUBLIC | Modifier.FINAL);
        for (Field f : MendedWebs.class.getDeclaredFields())
            due("rule 1: " + f, Modifier.isPrivate(f.getModifiers()) || f.getName().equals("NONE") ? 1 : 0, 1);
        due("rule 1: constructors", MendedWebs.class.getDeclaredConstructors().length, 1);
        for (Method m : MendedWebs.class.getDeclaredMethods())
            if (!Modifier.isPublic(m.getModifiers())) due("rule 1: " + m + " has its own name", names.contains(m.getName()) ? 1 : 0, 0);
        due("rule 11: classes", MendedWebs.class.getDeclaredClasses().length < 12 ? 1 : 0, 1);
        for (Class<?> c : MendedWebs.class.getDeclaredClasses()) {
            due("rule 2: " + c + " is static", Modifier.isStatic(c.getModifiers()) ? 1 : 0, 1);
            for (Method m : c.getDeclaredMethods()) {
                due("rule 1: " + m + " has its own name", names.contains(m.getName()) ? 1 : 0, 0);
                due("rule 11: parameters of " + m, m.getParameterCount() <= 7 ? 1 : 0, 1);
            }
            int fields = 0;
            for (Field f : c.getDeclaredFields()) {
                if (!Modifier.isStatic(f.getModifiers())) fields++;
                else due("rule 5: " + f, Modifier.isFinal(f.getModifiers()) ? 1 : 0, 1);
            }
            due("rule 11: fields of " + c, fields <= 20 ? 1 : 0, 1);
        }
    }

    private static void source() throws java.io.IOException {
        String text = Files.readString(Path.of("src/main/java/MendedWebs.java"), StandardCharsets.ISO_8859_1);
        String bare = text.replaceAll("(?s)/\\*.*?\\*/", "").replaceAll("//[^\n]*", "").replaceAll("\"[^\"\n]*\"", "\"\"");
        String[] never = {"throw", "throws", "try", "catch", "synchronized", "assert", "finally", "native", "volatile", "package",
            "Object", "System\\.(?!arraycopy)", "Exact", "Random", "Thread", "hashCode", "toString", "float", "double"};
        for (String word : never) due("rules 3 to 6: " + word, Pattern.compile("\\b" + word + "\\b").matcher(bare).find() ? 1 : 0, 0);
        due("rule 2: no lambda", bare.contains("->") || bare.contains("::") ? 1 : 0, 0);
        due("rule 4: imports", bare.split("\nimport |^import ").length, 2);
        for (char c : text.toCharArray()) if (c != '\n' && (c < 32 || c > 126)) due("rule 4: sign " + (int) c, 0, 1);
        Matcher m = Pattern.compile("(?m)^( {4}| {8})(?:[\\w\\[\\]]+ )+\\w+\\([^)]*\\) \\{\n(.*?)^\\1\\}$", Pattern.DOTALL).matcher(text);
        int methods = 0;
        while (m.find()) {
            methods++;
            int lines = m.group(2).split("\n").length;
            if (!m.group().contains(" class ")) due("rule 11: lines of " + m.group().split("\n")[0], lines <= 60 ? 1 : 0, 1);
        }
        due("rule 11: methods were found", methods > 100 ? 1 : 0, 1);
    }

    /** 512 dear calls on one object must fit in the room many times over. */
    private static void room() {
        com.sun.management.ThreadMXBean bean = (com.sun.management.ThreadMXBean) java.lang.management.ManagementFactory.getThreadMXBean();
        long id = Thread.currentThread().getId();
        dear();
        long before = bean.getThreadAllocatedBytes(id);
        int calls = dear();
        long bytes = bean.getThreadAllocatedBytes(id) - before;
        due("the room: calls", calls, 512);
        due("the room: " + bytes + " bytes", bytes < 600000 ? 1 : 0, 1);
    }

    private static int dear() {
        MendedWebs x = new MendedWebs();
        int[] text = "list 0;twin 0;rise 1;keep total 0 = 9".chars().toArray();
        int calls = 0;
        for (int i = 0; i < 32; i++) {
            for (int t = 0; t < text.length; t += 20) {
                x.feed(Checks.four(text, t), Checks.four(text, t + 4), Checks.four(text, t + 8), Checks.four(text, t + 12),
                    Checks.four(text, t + 16));
                calls++;
            }
            x.end(text.length);
            x.laws();
            x.feed(0x70617920, 0x6e616d65, 0x20302020, 0x20202020, 0x20202020);
            x.lines();
            x.lots(1000, i);
            x.step(64);
            x.least(3, 0);
            x.least(2, 1);
            x.mends(3, 0, 0, 0);
            x.mend(3, 0);
            x.putIn(24, 0);
            x.image(i % 2);
            x.again(64 * i + 63);
            x.spread(0, 64 * i + 63);
            calls += 14;
        }
        return calls;
    }

    public static void main(String[] args) throws java.io.IOException {
        face();
        source();
        room();
        Checks.close();
    }
}
