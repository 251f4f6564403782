import java.util.ArrayList;
import java.util.List;
import java.util.Random;

/** Texts of both languages by their grammar, and spoilt ones. */
public final class RandomTexts {
    private static final String[] TOKENS = {"list", "twin", "rise", "apart", "keep", "let", "pay", "if", "head", "name",
        "next", "back", "key", "node", "nothing", "be", "or", "and", "not", "length", "total", "0", "1", "2", "3", "5", "6",
        "9", "10", "99", "100", "007", "00000000000000000000002", "(", ")", "[", "]", "<", ">", "=", "+", "-", ";", "x",
        "A", "lists", "\u00ff", "\u0000", "(", "[", "(", "["};

    private final Random random;
    private List<String> words = new ArrayList<>();

    public RandomTexts(Random random) {
        this.random = random;
    }

    private void add(String... more) {
        for (String w : more) words.add(w);
    }

    private String pick(String... of) {
        return of[random.nextInt(of.length)];
    }

    private String small() {
        return pick("0", "0", "1", "2");
    }

    public String laws() {
        words = new ArrayList<>();
        int n = random.nextInt(20) == 0 ? 11 + random.nextInt(3) : 1 + random.nextInt(4);
        for (int i = 0; i < n; i++) {
            if (i > 0) add(";");
            law();
        }
        return join();
    }

    public String lines() {
        words = new ArrayList<>();
        int n = random.nextInt(20) == 0 ? 11 + random.nextInt(3) : 1 + random.nextInt(7);
        for (int i = 0; i < n; i++) {
            if (i > 0) add(";");
            line();
        }
        return join();
    }

    private void law() {
        switch (random.nextInt(9)) {
            case 0: case 1: add("list", small()); break;
            case 2: case 3: add("twin", small()); break;
            case 4: case 5: add("rise", small()); break;
            case 6: add("apart", small(), small()); break;
            default: add("keep"); test(2, false);
        }
    }

    private void line() {
        int kind = random.nextInt(12) - 1;
        if (kind <= 0) {
            add("pay");
            sum(2, true);
        } else {
            add("let");
            if (kind <= 2) {
                add("head", small(), "be");
                node(2);
            } else if (kind <= 4) {
                add("name", small(), "be");
                sum(2, true);
            } else {
                String place = pick("next", "next", "back", "key");
                add(place, "(");
                node(2);
                add(")", "be");
                if (place.equals("key")) sum(2, true);
                else node(2);
            }
        }
        if (random.nextInt(3) == 0) {
            add("if");
            test(2, true);
        }
    }

    private void node(int deep) {
        int kind = random.nextInt(deep > 0 ? 10 : 6);
        if (kind <= 2) add("node", pick("0", "1", "2", "3", "4", "5"));
        else if (kind <= 4) add("head", small());
        else if (kind == 5) add("nothing");
        else {
            add(pick("next", "back"), "(");
            node(deep - 1);
            add(")");
        }
    }

    private void test(int deep, boolean line) {
        both(deep, line);
        while (random.nextInt(5) == 0) {
            add("or");
            both(deep, line);
        }
    }

    private void both(int deep, boolean line) {
        plain(deep, line);
        while (random.nextInt(5) == 0) {
            add("and");
            plain(deep, line);
        }
    }

    private void plain(int deep, boolean line) {
        if (random.nextInt(6) == 0) add("not");
        if (deep > 0 && random.nextInt(5) == 0) {
            add("(");
            test(deep - 1, line);
            add(")");
            return;
        }
        sum(deep, line);
        add(pick("<", ">", "="));
        sum(deep, line);
    }

    private void sum(int deep, boolean line) {
        part(deep, line);
        while (random.nextInt(4) == 0) {
            add(pick("+", "-"));
            part(deep, line);
        }
    }

    private void part(int deep, boolean line) {
        int kind = random.nextInt(line ? 9 : 7);
        if (kind == 0) add(pick("0", "1", "2", "3", "5", "9", "10", "99"));
        else if (kind == 1) add(pick("0", "1", "2", "3"));
        else if (kind == 2) add("name", small());
        else if (kind == 3) add("length", small());
        else if (kind == 4) add("total", small());
        else if (kind == 5 && deep > 0) {
            add("[");
            sum(deep - 1, line);
            add("]");
        } else if (kind >= 7 && line) {
            add("key", "(");
            node(deep);
            add(")");
        } else add("name", small());
    }

    /** The same tokens, a few of them lost, doubled or others. */
    public String spoilt(String text) {
        List<String> tokens = new ArrayList<>();
        java.util.regex.Matcher m = java.util.regex.Pattern.compile("[a-z]+|[0-9]+|[^ ]").matcher(text);
        while (m.find()) tokens.add(m.group());
        int times = 1 + random.nextInt(2);
        for (int i = 0; i < times; i++) {
            int at = random.nextInt(tokens.size() + 1);
            int how = random.nextInt(4);
            if (how == 0) tokens.add(at, TOKENS[random.nextInt(TOKENS.length)]);
            else if (at < tokens.size() && how == 1) tokens.set(at, TOKENS[random.nextInt(TOKENS.length)]);
            else if (at < tokens.size() && how == 2) tokens.remove(at);
            else if (at < tokens.size()) tokens = new ArrayList<>(tokens.subList(0, at));
        }
        words = tokens;
        return join();
    }

    /** Long rows and deep brackets, around the limits. */
    public String extreme(boolean line) {
        words = new ArrayList<>();
        add(line ? "pay" : "keep");
        int deep = random.nextInt(11);
        String open = line || random.nextBoolean() ? "[" : "(";
        for (int i = 0; i < deep; i++) add(open);
        add("1");
        if (open.equals("(")) add("=", "1");
        for (int i = 0; i < deep; i++) add(open.equals("[") ? "]" : ")");
        if (open.equals("[") && !line) add("=", "1");
        int more = random.nextInt(35);
        for (int i = 0; i < more; i++) {
            if (line) add("+", "1");
            else add("or", "1", "=", "1");
        }
        if (random.nextInt(3) == 0) words.add(1 + random.nextInt(words.size()), "not");
        if (random.nextInt(3) == 0) add(";");
        return join();
    }

    private String join() {
        StringBuilder b = new StringBuilder();
        for (String w : words) {
            boolean joined = b.length() > 0 && alike(b.charAt(b.length() - 1), w.charAt(0));
            if (joined || random.nextInt(3) == 0) b.append(' ');
            b.append(w);
        }
        if (random.nextInt(5) == 0) b.append("  ");
        return b.toString();
    }

    private static boolean alike(char one, char other) {
        return Character.isDigit(one) && Character.isDigit(other)
            || one >= 'a' && one <= 'z' && other >= 'a' && other <= 'z';
    }
}
