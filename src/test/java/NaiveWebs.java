import java.util.ArrayList;
import java.util.List;

/**
 * The document once more, in the plainest way and with no thought of speed: trees instead of code, all that ever
 * happened in lists, every mend tried. AgainstNaiveTest asks both and compares.
 */
public final class NaiveWebs {
    private static final class Fault extends Exception {
        final int place;
        Fault(int place) { this.place = place; }
    }

    private static final class Amiss extends Exception { }

    private static final class Token {
        String text;
        int place;
    }

    private static final class Tree {
        final String op;
        final int number;
        final List<Tree> kids = new ArrayList<>();
        Tree(String op, int number, Tree... kids) {
            this.op = op;
            this.number = number;
            for (Tree kid : kids) this.kids.add(kid);
        }
    }

    private static final class Line {
        String kind;
        int number;
        Tree node;
        Tree value;
        Tree test;
    }

    private static final class Write {
        int step, line, cell, was, becomes;
        boolean wasMarked;
        boolean[] read;
    }

    private static final class Step {
        int line;
        boolean amiss;
    }

    private static final class State {
        int[] cells = new int[24];
        boolean[] marked = new boolean[24];
        int[] mended = new int[24];
        List<Tree> laws = new ArrayList<>();
        List<Line> lines = new ArrayList<>();
        List<Write> writes = new ArrayList<>();
        int lostUpTo = -1;
        List<Step> steps = new ArrayList<>();
        int next, passed, amiss, held, flips, cost, how, from = -1, to = -1, chance, s, weighty, paidCount;
        List<Integer> paid = new ArrayList<>();
        int[] prices = {5, 2, 3, 2, 4};
        int[] copy;
        int[] broken = new int[12], seen = new int[12], late = new int[12];

        State copyOf() {
            State c = new State();
            c.cells = cells.clone();
            c.marked = marked.clone();
            c.mended = mended.clone();
            c.laws = new ArrayList<>(laws);
            c.lines = new ArrayList<>(lines);
            c.writes = new ArrayList<>(writes);
            c.lostUpTo = lostUpTo;
            for (Step t : steps) {
                Step u = new Step();
                u.line = t.line;
                u.amiss = t.amiss;
                c.steps.add(u);
            }
            c.next = next; c.passed = passed; c.amiss = amiss; c.held = held; c.flips = flips; c.cost = cost;
            c.how = how; c.from = from; c.to = to; c.chance = chance; c.s = s; c.weighty = weighty;
            c.paidCount = paidCount;
            c.paid = new ArrayList<>(paid);
            c.prices = prices.clone();
            c.copy = copy == null ? null : copy.clone();
            c.broken = broken.clone();
            c.seen = seen.clone();
            c.late = late.clone();
            return c;
        }
    }

    private final List<Integer> tape = new ArrayList<>();
    private int fault = -1;
    private int status = 0;
    private State x = new State();
    private final State[] images = new State[2];

    public NaiveWebs() {
        for (int i = 0; i < 24; i++) x.cells[i] = number(i) ? 0 : -1;
        clear(x.broken);
        clear(x.seen);
        clear(x.late);
    }

    private static void clear(int[] a) {
        for (int i = 0; i < a.length; i++) a[i] = -1;
    }

    private static boolean number(int cell) {
        return cell >= 3 && cell <= 5 || cell >= 6 && (cell - 6) % 3 == 2;
    }

    private static boolean fits(int cell, int value) {
        return number(cell) ? value >= 0 && value <= 9 : value >= -1 && value <= 5;
    }

    private int no(int by) {
        status = by;
        return by;
    }

    private int yes(int answer) {
        status = 0;
        return answer;
    }

    // ---- the tape and the texts

    public int feed(int a, int b, int c, int d, int e) {
        if (tape.size() + 20 > 400) return -1;
        for (int n : new int[] {a, b, c, d, e})
            for (int i = 3; i >= 0; i--) tape.add(n >>> 8 * i & 255);
        return tape.size();
    }

    public int end(int n) {
        if (n < 0 || n > tape.size()) return -1;
        while (tape.size() > n) tape.remove(tape.size() - 1);
        return n;
    }

    private List<Token> tokens;
    private int at;
    private int length;
    private boolean inLine;
    private int used;
    private int depth;

    private void cut() {
        tokens = new ArrayList<>();
        StringBuilder b = new StringBuilder();
        for (int n : tape) b.append((char) n);
        String text = b.toString();
        length = text.length();
        java.util.regex.Matcher m = java.util.regex.Pattern.compile("[a-z]+|[0-9]+|[^ ]", java.util.regex.Pattern.DOTALL)
            .matcher(text);
        while (m.find()) {
            Token t = new Token();
            t.text = m.group();
            t.place = m.start();
            tokens.add(t);
        }
        at = 0;
    }

    private String word() {
        return at < tokens.size() ? tokens.get(at).text : "";
    }

    private Fault bad() {
        return new Fault(at < tokens.size() ? tokens.get(at).place : length);
    }

    private void go() throws Fault {
        at++;
        used++;
        if (used == 60 && at < tokens.size() && !word().equals(";")) throw bad();
    }

    private void must(String w) throws Fault {
        if (!word().equals(w)) throw bad();
        if (w.equals("(") || w.equals("[")) {
            if (depth == 8) throw bad();
            depth++;
        }
        if (w.equals(")") || w.equals("]")) depth--;
        go();
    }

    private int num(int most) throws Fault {
        if (!word().matches("[0-9]+") || new java.math.BigInteger(word()).compareTo(java.math.BigInteger.valueOf(most)) > 0)
            throw bad();
        int n = new java.math.BigInteger(word()).intValue();
        go();
        return n;
    }

    private Tree law() throws Fault {
        String w = word();
        if (w.equals("list") || w.equals("twin") || w.equals("rise")) {
            go();
            return new Tree(w, num(2));
        }
        if (w.equals("apart")) {
            go();
            int a = num(2);
            int b = num(2);
            return new Tree(w, 0, new Tree("head", a), new Tree("head", b));
        }
        if (w.equals("keep")) {
            go();
            return test();
        }
        throw bad();
    }

    private Line line() throws Fault {
        Line l = new Line();
        if (word().equals("let")) {
            go();
            l.kind = word();
            if (l.kind.equals("head") || l.kind.equals("name")) {
                go();
                l.number = num(2);
            } else if (l.kind.equals("next") || l.kind.equals("back") || l.kind.equals("key")) {
                go();
                must("(");
                l.node = node();
                must(")");
            } else throw bad();
            must("be");
            l.value = l.kind.equals("name") || l.kind.equals("key") ? sum() : node();
        } else if (word().equals("pay")) {
            l.kind = "pay";
            go();
            l.value = sum();
        } else throw bad();
        if (word().equals("if")) {
            go();
            l.test = test();
        }
        return l;
    }

    private Tree node() throws Fault {
        String w = word();
        if (w.equals("node")) {
            go();
            return new Tree("node", num(5));
        }
        if (w.equals("head")) {
            go();
            return new Tree("head", num(2));
        }
        if (w.equals("nothing")) {
            go();
            return new Tree("nothing", 0);
        }
        if (w.equals("next") || w.equals("back")) {
            go();
            must("(");
            Tree n = node();
            must(")");
            return new Tree(w, 0, n);
        }
        throw bad();
    }

    private Tree test() throws Fault {
        Tree t = both();
        while (word().equals("or")) {
            go();
            t = new Tree("or", 0, t, both());
        }
        return t;
    }

    private Tree both() throws Fault {
        Tree t = plain();
        while (word().equals("and")) {
            go();
            t = new Tree("and", 0, t, plain());
        }
        return t;
    }

    private Tree plain() throws Fault {
        if (word().equals("not")) {
            go();
            return new Tree("not", 0, plain());
        }
        if (word().equals("(")) {
            must("(");
            Tree t = test();
            must(")");
            return t;
        }
        Tree a = sum();
        String w = word();
        if (!w.equals("<") && !w.equals(">") && !w.equals("=")) throw bad();
        go();
        return new Tree(w, 0, a, sum());
    }

    private Tree sum() throws Fault {
        Tree a = part();
        while (word().equals("+") || word().equals("-")) {
            String w = word();
            go();
            a = new Tree(w, 0, a, part());
        }
        return a;
    }

    private Tree part() throws Fault {
        String w = word();
        if (w.matches("[0-9]+")) return new Tree("number", num(99));
        if (w.equals("name") || w.equals("length") || w.equals("total")) {
            go();
            return new Tree(w, num(2));
        }
        if (w.equals("[")) {
            must("[");
            Tree t = sum();
            must("]");
            return t;
        }
        if (w.equals("key") && inLine) {
            go();
            must("(");
            Tree n = node();
            must(")");
            return new Tree("key", 0, n);
        }
        throw bad();
    }

    private <T> boolean parse(boolean lines, List<Tree> laws, List<Line> linesInto) {
        cut();
        inLine = lines;
        fault = -1;
        try {
            for (int i = 0; ; i++) {
                used = 0;
                depth = 0;
                if (i == 12) throw bad();
                if (lines) linesInto.add(line());
                else laws.add(law());
                if (at == tokens.size()) break;
                if (!word().equals(";")) throw bad();
                at++;
            }
        } catch (Fault f) {
            fault = f.place;
        }
        tape.clear();
        return fault == -1;
    }

    public int laws() {
        List<Tree> fresh = new ArrayList<>();
        if (!parse(false, fresh, null)) return no(-6);
        x.laws = fresh;
        clear(x.broken);
        clear(x.seen);
        clear(x.late);
        return yes(fresh.size());
    }

    public int lines() {
        List<Line> fresh = new ArrayList<>();
        if (!parse(true, null, fresh)) return no(-6);
        x.lines = fresh;
        x.next = 0;
        x.from = -1;
        x.to = -1;
        for (Step t : x.steps) t.line = -1;
        return yes(fresh.size());
    }

    public int fault() {
        return fault;
    }

    // ---- what trees say

    private static List<Integer> wayOf(int[] cells, int head) {
        List<Integer> way = new ArrayList<>();
        int n = cells[head];
        while (n != -1 && !way.contains(n)) {
            way.add(n);
            n = cells[6 + 3 * n];
        }
        return way;
    }

    private static void readWay(int[] cells, int head, boolean[] read, int more) {
        read[head] = true;
        for (int n : wayOf(cells, head)) {
            read[6 + 3 * n] = true;
            if (more > 0) read[6 + 3 * n + more] = true;
        }
    }

    private static int eval(Tree t, int[] cells, boolean[] read) throws Amiss {
        switch (t.op) {
            case "number": case "node": return t.number;
            case "nothing": return -1;
            case "head": read[t.number] = true; return cells[t.number];
            case "name": read[3 + t.number] = true; return cells[3 + t.number];
            case "length": readWay(cells, t.number, read, 0); return wayOf(cells, t.number).size();
            case "total": {
                readWay(cells, t.number, read, 2);
                int sum = 0;
                for (int n : wayOf(cells, t.number)) sum += cells[8 + 3 * n];
                return sum;
            }
            case "next": case "back": case "key": {
                int n = eval(t.kids.get(0), cells, read);
                if (n == -1) throw new Amiss();
                int c = 6 + 3 * n + (t.op.equals("next") ? 0 : t.op.equals("back") ? 1 : 2);
                read[c] = true;
                return cells[c];
            }
            case "not": return 1 - eval(t.kids.get(0), cells, read);
            case "list": {
                readWay(cells, t.number, read, 0);
                List<Integer> way = wayOf(cells, t.number);
                return way.isEmpty() || cells[6 + 3 * way.get(way.size() - 1)] == -1 ? 1 : 0;
            }
            case "twin": {
                readWay(cells, t.number, read, 1);
                List<Integer> way = wayOf(cells, t.number);
                for (int i = 0; i < way.size(); i++)
                    if (cells[7 + 3 * way.get(i)] != (i == 0 ? -1 : way.get(i - 1))) return 0;
                return 1;
            }
            case "rise": {
                readWay(cells, t.number, read, 2);
                List<Integer> way = wayOf(cells, t.number);
                for (int i = 1; i < way.size(); i++)
                    if (cells[8 + 3 * way.get(i)] < cells[8 + 3 * way.get(i - 1)]) return 0;
                return 1;
            }
            case "apart": {
                readWay(cells, t.kids.get(0).number, read, 0);
                readWay(cells, t.kids.get(1).number, read, 0);
                List<Integer> way = wayOf(cells, t.kids.get(0).number);
                way.retainAll(wayOf(cells, t.kids.get(1).number));
                return way.isEmpty() ? 1 : 0;
            }
            default: {
                int a = eval(t.kids.get(0), cells, read);
                int b = eval(t.kids.get(1), cells, read);
                switch (t.op) {
                    case "+": return a + b;
                    case "-": return a - b;
                    case "<": return a < b ? 1 : 0;
                    case ">": return a > b ? 1 : 0;
                    case "=": return a == b ? 1 : 0;
                    case "and": return a == 1 && b == 1 ? 1 : 0;
                    default: return a == 1 || b == 1 ? 1 : 0;
                }
            }
        }
    }

    private static boolean holds(Tree law, int[] cells) {
        try {
            return eval(law, cells, new boolean[24]) == 1;
        } catch (Amiss e) {
            throw new IllegalStateException();
        }
    }

    private static boolean whole(State s, int[] cells) {
        for (Tree law : s.laws) if (!holds(law, cells)) return false;
        return true;
    }

    private boolean law(int law) {
        return law >= 0 && law < x.laws.size();
    }

    public int holds(int law) {
        return law(law) ? holds(x.laws.get(law), x.cells) ? 1 : 0 : -1;
    }

    private static boolean has(Tree t, String op, int number) {
        if (t.op.equals(op) && (number < 0 || t.number == number)) return true;
        for (Tree kid : t.kids) if (has(kid, op, number)) return true;
        return false;
    }

    private static boolean hasHead(Tree t, int h) {
        for (String op : new String[] {"list", "twin", "rise", "head", "length", "total"}) if (has(t, op, h)) return true;
        return false;
    }

    private static boolean bearsOn(Line l, Tree law) {
        switch (l.kind) {
            case "head": return hasHead(law, l.number);
            case "name": return has(law, "name", l.number);
            case "next": return hasHead(law, -1);
            case "back": return law.op.equals("twin");
            case "key": return law.op.equals("rise") || has(law, "total", -1);
            default: return false;
        }
    }

    public int bears(int line) {
        if (line < 0 || line >= x.lines.size()) return -1;
        int bits = 0;
        for (int i = 0; i < x.laws.size(); i++) if (bearsOn(x.lines.get(line), x.laws.get(i))) bits |= 1 << i;
        return bits;
    }

    private static int bits(boolean[] b) {
        int bits = 0;
        for (int i = 0; i < b.length; i++) if (b[i]) bits |= 1 << i;
        return bits;
    }

    public int asked(int law) {
        if (!law(law)) return -1;
        boolean[] read = new boolean[24];
        try {
            eval(x.laws.get(law), x.cells, read);
        } catch (Amiss e) {
            throw new IllegalStateException();
        }
        return bits(read);
    }

    public int cell(int cell, int what) {
        if (cell < 0 || cell > 23 || what < 0 || what > 3) return -1000;
        if (what == 0) return x.cells[cell];
        if (what == 1) return x.marked[cell] ? 1 : 0;
        if (what == 2) return x.mended[cell];
        int line = -1;
        for (Write w : x.writes) if (w.cell == cell && w.line >= 0) line = w.line;
        return line;
    }

    public int way(int head, int i) {
        if (head < 0 || head > 2) return -1;
        List<Integer> way = wayOf(x.cells, head);
        return i < 0 || i >= way.size() ? -1 : way.get(i);
    }

    // ---- writes

    private static void write(State s, int step, int line, int cell, int value, boolean marked, boolean[] read) {
        Write w = new Write();
        w.step = step;
        w.line = line;
        w.cell = cell;
        w.was = s.cells[cell];
        w.wasMarked = s.marked[cell];
        w.becomes = value;
        w.read = read;
        s.writes.add(w);
        if (s.writes.size() > 200) {
            s.lostUpTo = Math.max(s.lostUpTo, s.writes.get(0).step);
            s.writes.remove(0);
        }
        s.cells[cell] = value;
        s.marked[cell] = marked;
    }

    private void flipCell(int cell, int value, int step) {
        write(x, step, -1, cell, value, x.marked[cell], new boolean[24]);
    }

    public int flip(int cell, int value) {
        if (cell < 0 || cell > 23 || !fits(cell, value)) return no(-1);
        int was = x.cells[cell];
        flipCell(cell, value, x.steps.size());
        return yes(was);
    }

    public int row(int cell) {
        List<Integer> bytes = new ArrayList<>(tape);
        tape.clear();
        if (cell < 0 || cell > 23) return no(-1);
        if (bytes.isEmpty() || bytes.size() > 24 - cell) return no(-6);
        int n = 0;
        for (int i = 0; i < bytes.size(); i++) {
            int v = bytes.get(i) == 255 ? -1 : bytes.get(i);
            if (fits(cell + i, v)) {
                flipCell(cell + i, v, x.steps.size());
                n++;
            }
        }
        return yes(n);
    }

    public int lots(int chance, int seed) {
        if (chance < 0 || chance > 1000 || seed < 0 || seed > 1000000) return no(-1);
        x.chance = chance;
        x.s = seed;
        return yes(0);
    }

    public int watch(int how) {
        if (how < 0 || how > 3) return no(-1);
        int was = x.how;
        x.how = how;
        return yes(was);
    }

    public int routine(int from, int to) {
        if (from < 0 || to < 0 || from >= x.lines.size() || to >= x.lines.size()) return no(-2);
        if (from > to) return no(-3);
        x.from = from;
        x.to = to;
        return yes(0);
    }

    // ---- steps

    private static final class Done {
        String what;
        int cell, value;
        boolean marked;
        boolean[] read = new boolean[24];
    }

    private static Done perform(State s, Line l) {
        Done d = new Done();
        try {
            if (l.test != null && eval(l.test, s.cells, d.read) == 0) {
                d.what = "passed";
                return d;
            }
            int node = 0;
            if (l.node != null) {
                node = eval(l.node, s.cells, d.read);
                if (node == -1) throw new Amiss();
            }
            d.value = eval(l.value, s.cells, d.read);
            for (int i = 0; i < 24; i++) if (d.read[i] && s.marked[i]) d.marked = true;
            switch (l.kind) {
                case "head": d.cell = l.number; break;
                case "name": d.cell = 3 + l.number; break;
                case "next": d.cell = 6 + 3 * node; break;
                case "back": d.cell = 7 + 3 * node; break;
                case "key": d.cell = 8 + 3 * node; break;
                default: d.what = d.marked ? "held" : "paid"; return d;
            }
            if (!fits(d.cell, d.value)) throw new Amiss();
            d.what = "written";
        } catch (Amiss e) {
            d.what = "amiss";
        }
        return d;
    }

    private int draw(int n) {
        x.s = (int) ((x.s * 1103L + 12345L) % 1000003L);
        return x.s % n;
    }

    private void one() {
        int step = x.steps.size();
        int line = x.next;
        Done d = perform(x, x.lines.get(line));
        switch (d.what) {
            case "passed": x.passed++; break;
            case "amiss": x.amiss++; break;
            case "held": x.held++; break;
            case "paid":
                x.paidCount++;
                if (x.paid.size() < 100) x.paid.add(d.value);
                break;
            default: write(x, step, line, d.cell, d.value, d.marked, d.read);
        }
        if (x.chance > 0 && draw(1000) < x.chance) {
            int c = draw(24);
            flipCell(c, number(c) ? draw(10) : draw(7) - 1, step);
            x.flips++;
        }
        for (int i = 0; i < x.laws.size(); i++) {
            if (holds(x.laws.get(i), x.cells)) {
                x.broken[i] = -1;
                x.seen[i] = -1;
            } else if (x.broken[i] == -1) x.broken[i] = step;
        }
        for (int i = 0; i < x.laws.size(); i++) {
            boolean ask = x.how == 3;
            if (x.how == 2) ask = i == step % x.laws.size();
            if (x.how == 1) ask = !d.what.equals("passed") && !d.what.equals("amiss") && bearsOn(x.lines.get(line), x.laws.get(i));
            if (x.from != -1 && line >= x.from && line <= x.to && line != x.to) ask = false;
            if (!ask) continue;
            x.cost++;
            if (!holds(x.laws.get(i), x.cells) && x.seen[i] == -1) {
                x.seen[i] = step;
                x.late[i] = step - x.broken[i];
            }
        }
        Step t = new Step();
        t.line = line;
        t.amiss = d.what.equals("amiss");
        x.steps.add(t);
        x.next = (line + 1) % x.lines.size();
    }

    public int step(int n) {
        if (n < 1 || n > 64) return no(-1);
        if (x.lines.isEmpty()) return no(-3);
        for (int i = 0; i < n; i++) one();
        return yes(x.steps.size());
    }

    public int seen(int law, int what) {
        if (!law(law)) return -1;
        return what == 0 ? x.broken[law] : what == 1 ? x.seen[law] : what == 2 ? x.late[law] : -1;
    }

    public int all(int what) {
        int[] all = {x.steps.size(), x.passed, x.amiss, x.paidCount, x.held, x.flips, x.cost, x.next, x.writes.size()};
        return what < 0 || what >= all.length ? -1 : all[what];
    }

    public int out(int i) {
        return i < 0 || i >= x.paid.size() ? -1000 : x.paid.get(i);
    }

    // ---- mends

    public int price(int kind, int price) {
        if (kind < 0 || kind > 4 || price < 1 || price > 9) return no(-1);
        int was = x.prices[kind];
        x.prices[kind] = price;
        return yes(was);
    }

    public int copy() {
        x.copy = x.cells.clone();
        return 0;
    }

    public int weighty(int cells) {
        if (cells < 0 || cells > 0xffffff) return no(-1);
        int was = x.weighty;
        x.weighty = cells;
        return yes(was);
    }

    private int priceOf(int cell, int value) {
        int p = x.prices[cell < 3 ? 0 : cell < 6 ? 1 : 2 + (cell - 6) % 3];
        boolean recent = false;
        for (Write w : x.writes) if (w.cell == cell && w.line >= 0 && w.step >= x.steps.size() - 8) recent = true;
        if (recent) p--;
        if (x.copy != null && x.copy[cell] == value) p--;
        return Math.max(1, p);
    }

    private int leastPrice;
    private int leastCount;
    private List<int[]> leastRows;

    private void search(int m) {
        leastPrice = Integer.MAX_VALUE;
        leastRows = new ArrayList<>();
        leastCount = 0;
        if (whole(x, x.cells)) {
            leastPrice = 0;
            leastCount = 1;
            leastRows.add(new int[0]);
            return;
        }
        int[][] price = new int[24][11];
        for (int c = 0; c < 24; c++) for (int v = -1; v <= 9; v++) price[c][v + 1] = fits(c, v) ? priceOf(c, v) : 0;
        for (int size = 1; size <= m; size++) {
            int before = leastPrice;
            choose(x.cells.clone(), 0, size, 0, new int[0], price, before);
        }
    }

    private void choose(int[] cells, int from, int left, int paid, int[] row, int[][] price, int before) {
        if (paid + left > leastPrice || paid + left >= before) return;
        if (left == 0) {
            if (!whole(x, cells)) return;
            if (paid < leastPrice) {
                leastPrice = paid;
                leastRows.clear();
                leastCount = 0;
            }
            leastCount++;
            if (leastRows.size() < 500) leastRows.add(row);
            return;
        }
        for (int c = from; c < 24; c++) {
            int was = cells[c];
            for (int v = -1; v <= 9; v++) {
                if (v == was || !fits(c, v)) continue;
                cells[c] = v;
                int[] longer = java.util.Arrays.copyOf(row, row.length + 2);
                longer[row.length] = c;
                longer[row.length + 1] = v;
                choose(cells, c + 1, left - 1, paid + price[c][v + 1], longer, price, before);
            }
            cells[c] = was;
        }
    }

    /** All rows of LEAST, the first 500: cell, value, cell, value .. */
    List<int[]> rows(int m) {
        search(m);
        return leastRows;
    }

    private boolean differ() {
        for (int c = 0; c < 24; c++) {
            if ((x.weighty >> c & 1) == 0) continue;
            Integer one = null;
            for (int[] row : leastRows) {
                int v = x.cells[c];
                for (int i = 0; i < row.length; i += 2) if (row[i] == c) v = row[i + 1];
                if (one != null && one != v) return true;
                one = v;
            }
        }
        return false;
    }

    public int least(int m, int what) {
        if (m < 1 || m > 3 || what < 0 || what > 2) return -1;
        search(m);
        if (leastRows.isEmpty()) return -1;
        return what == 0 ? leastPrice : what == 1 ? Math.min(501, leastCount) : differ() ? 1 : 0;
    }

    public int mends(int m, int i, int k, int what) {
        if (m < 1 || m > 3 || i < 0 || k < 0 || what < 0 || what > 1) return -1000;
        search(m);
        if (i >= leastRows.size() || 2 * (long) k >= leastRows.get(i).length) return -1000;
        return leastRows.get(i)[2 * k + what];
    }

    public int mend(int m, int i) {
        if (m < 1 || m > 3) return no(-1);
        search(m);
        if (leastRows.isEmpty() || leastPrice == 0) return no(-3);
        if (i == -1) {
            if (differ()) return no(-3);
            i = 0;
        }
        if (i < 0 || i >= leastRows.size()) return no(-3);
        int[] row = leastRows.get(i);
        for (int j = 0; j < row.length; j += 2) {
            write(x, x.steps.size(), -2, row[j], row[j + 1], true, new boolean[24]);
            x.mended[row[j]]++;
        }
        return yes(leastPrice);
    }

    public int sure(int cell) {
        if (cell < 0 || cell > 23) return no(-1);
        if (!x.marked[cell]) return no(-3);
        x.marked[cell] = false;
        return yes(0);
    }

    // ---- what hangs on what

    public int spread(int cell, int step) {
        if (cell < 0 || cell > 23 || step < 0 || step >= x.steps.size() || x.lostUpTo >= step) return -1;
        boolean[] in = new boolean[24];
        in[cell] = true;
        for (Write w : x.writes) {
            if (w.step < step) continue;
            boolean any = false;
            if (w.line >= 0) for (int i = 0; i < 24; i++) if (w.read[i] && in[i]) any = true;
            in[w.cell] = any;
        }
        return bits(in);
    }

    public int again(int step) {
        int n = x.steps.size();
        if (step < 0 || step >= n) return no(-1);
        if (n - step > 200 || x.lostUpTo >= step) return no(-3);
        State y = x.copyOf();
        while (!y.writes.isEmpty() && y.writes.get(y.writes.size() - 1).step >= step) {
            Write w = y.writes.remove(y.writes.size() - 1);
            y.cells[w.cell] = w.was;
            y.marked[w.cell] = w.wasMarked;
        }
        y.steps.get(step).line = -1;
        int count = 0;
        for (int t = step + 1; t < n; t++) {
            int line = y.steps.get(t).line;
            if (line == -1) continue;
            count++;
            if (y.lines.get(line).kind.equals("pay")) continue;
            Done d = perform(y, y.lines.get(line));
            if (d.what.equals("amiss") && !y.steps.get(t).amiss) return no(-3);
            y.steps.get(t).amiss = d.what.equals("amiss");
            if (d.what.equals("written")) write(y, t, line, d.cell, d.value, d.marked, d.read);
        }
        x = y;
        return yes(count);
    }

    public int putIn(int n, int what) {
        if (n < 1 || n > 24 || what < 0 || what > 3 || x.lines.isEmpty()) return -1;
        List<Integer> due = new ArrayList<>();
        int[] cells = x.cells.clone();
        int dueHeld = paper(n, due, cells);
        int[] tally = new int[4];
        for (int c = 0; c < 24; c++) {
            for (int v = -1; v <= 9; v++) {
                if (!fits(c, v) || v == x.cells[c]) continue;
                List<Integer> paid = new ArrayList<>();
                cells = x.cells.clone();
                cells[c] = v;
                int held = paper(n, paid, cells);
                boolean whole = whole(x, cells);
                if (whole && paid.equals(due)) tally[0]++;
                else if (whole && held > dueHeld) tally[1]++;
                else if (whole) tally[2]++;
                else tally[3]++;
            }
        }
        return tally[what];
    }

    private int paper(int n, List<Integer> paid, int[] cells) {
        State y = new State();
        y.cells = cells;
        y.marked = x.marked.clone();
        int held = 0;
        for (int i = 0; i < n; i++) {
            Done d = perform(y, x.lines.get((x.next + i) % x.lines.size()));
            if (d.what.equals("paid")) paid.add(d.value);
            if (d.what.equals("held")) held++;
            if (d.what.equals("written")) {
                y.cells[d.cell] = d.value;
                y.marked[d.cell] = d.marked;
            }
        }
        return held;
    }

    public int image(int k) {
        if (k < 0 || k > 1) return no(-1);
        images[k] = x.copyOf();
        return yes(0);
    }

    public int back(int k) {
        if (k < 0 || k > 1) return no(-1);
        if (images[k] == null) return no(-2);
        x = images[k].copyOf();
        return yes(0);
    }

    public int status() {
        return status;
    }
}
