/** What holds for one cell, head, node, law, line holds for each of them. */
public final class EachTest {
    private static final int NOTHING = -1;
    private static final int[] FIRST_PRICES = {5, 2, 3, 2, 4};

    private EachTest() { }

    private static void says(String words) {
        Checks.says(words);
    }

    private static void due(String what, long got, long want) {
        Checks.due(what, got, want);
    }

    private static int kindOf(int cell) {
        return cell < 3 ? 0 : cell < 6 ? 1 : 2 + cell % 3;
    }

    private static boolean isNumber(int cell) {
        return kindOf(cell) == 1 || kindOf(cell) == 4;
    }

    private static int nodeOf(int cell) {
        return (cell - 6) / 3;
    }

    private static String placeOf(int cell) {
        String[] words = {"head " + cell, "name " + (cell - 3), "next", "back", "key"};
        return words[kindOf(cell)] + (cell < 6 ? "" : "(node " + nodeOf(cell) + ")");
    }

    /** Another cell of the same values, a head or a name, of which a line makes this one. */
    private static int sourceOf(int cell) {
        if (isNumber(cell)) return cell == 5 ? 4 : 5;
        return cell == 2 ? 1 : 2;
    }

    private static String writer(int cell) {
        return "let " + placeOf(cell) + " be " + placeOf(sourceOf(cell));
    }

    // ---- each cell

    private static void written(int c) {
        String line = writer(c);
        int source = sourceOf(c);
        says("each cell: '" + line + "'");
        MendedWebs x = Checks.web("", "pay 1;" + line);
        Checks.mark(x, c);
        int was = x.cell(c, 0);
        int to = was == 4 ? 3 : 4;
        x.flip(source, to);
        x.step(2);
        due("written", x.cell(c, 0), to);
        due("not marked", x.cell(c, 1), 0);
        due("mended once", x.cell(c, 2), 1);
        due("its line", x.cell(c, 3), 1);
        due("spread of its source since 1", x.spread(source, 1), 1 << source | 1 << c);
        due("its own spread since 1", x.spread(c, 1), 0);
        due("without step 1", x.again(1), 0);
        due("as it was", x.cell(c, 0), was);
        due("marked as it was", x.cell(c, 1), 1);
        due("mended once still", x.cell(c, 2), 1);
        due("no line", x.cell(c, 3), -1);
        due("a spread without it", x.spread(source, 1), 1 << source);
        MendedWebs y = Checks.web("", "pay 1;" + line);
        y.step(1);
        y.flip(c, 2);
        y.flip(source, 5);
        due("without step 0: a flip ahead of step 1 is taken back", y.again(0), 0);
        due("as it was at first", y.cell(c, 0), isNumber(c) ? 0 : NOTHING);
        due("not marked", y.cell(c, 1), 0);
    }

    private static void marked(int c) {
        String line = writer(c);
        int source = sourceOf(c);
        says("each cell: '" + line + "' of one that is marked");
        MendedWebs x = Checks.web("", line + ";pay 1");
        Checks.mark(x, source);
        int is = x.cell(source, 0);
        x.step(1);
        due("written", x.cell(c, 0), is);
        due("marked", x.cell(c, 1), 1);
        due("not mended", x.cell(c, 2), 0);
        for (int o = 0; o < 24; o++) if (o != c && o != source) due("mark of " + o, x.cell(o, 1), 0);
        x.flip(c, 1);
        due("marked behind a flip", x.cell(c, 1), 1);
        Checks.row(x, c, 2);
        due("marked behind a row", x.cell(c, 1), 1);
        due("it is 2", x.cell(c, 0), 2);
        due("its line still", x.cell(c, 3), 0);
        due("sure", x.sure(c), 0);
        due("not marked", x.cell(c, 1), 0);
        due("its source is still", x.cell(source, 1), 1);
    }

    private static void offSpread(int c) {
        int source = sourceOf(c);
        says("each cell: one flipped or mended is not in a spread");
        MendedWebs x = Checks.web("", writer(c) + ";pay 1");
        x.step(1);
        due("written", x.spread(source, 0), 1 << source | 1 << c);
        x.flip(c, 1);
        due("flipped", x.spread(source, 0), 1 << source);
        due("its own", x.spread(c, 0), 0);
        MendedWebs y = Checks.web("", writer(c) + ";pay 1");
        y.step(1);
        Checks.mark(y, c);
        due("mended", y.spread(source, 0), 1 << source);
        due("its own", y.spread(c, 0), 0);
        due("mended once", y.cell(c, 2), 1);
        due("its line still", y.cell(c, 3), 0);
        MendedWebs z = Checks.web("", "pay 1;" + writer(c));
        z.step(1);
        due("each is in its own at first", z.spread(c, 0), 1 << c);
        if (kindOf(c) == 2 || kindOf(c) == 3) mendedOffSpread(c);
    }

    /** A line makes a ring, or a wrong back: a mend of that cell, without a flip of it. */
    private static void mendedOffSpread(int c) {
        MendedWebs x = Checks.web("", "pay 1;" + writer(c));
        x.flip(sourceOf(c), nodeOf(c));
        x.flip(0, nodeOf(c));
        x.step(2);
        due("written since 1", x.spread(sourceOf(c), 1), 1 << sourceOf(c) | 1 << c);
        Checks.laws(x, lawOf(c));
        due("the cell to mend", x.mends(1, 0, 0, 0), c);
        x.mend(1, 0);
        due("it is mended", x.cell(c, 0), NOTHING);
        due("mended, not flipped", x.spread(sourceOf(c), 1), 1 << sourceOf(c));
    }

    private static void kept(int c) {
        says("each cell: IMAGES keep it");
        MendedWebs x = new MendedWebs();
        Checks.mark(x, c);
        int is = 4;
        x.flip(c, is);
        for (int k = 0; k < 2; k++) x.image(k);
        x.sure(c);
        x.flip(c, is == 3 ? 2 : 3);
        Checks.mark(x, c);
        due("mended twice", x.cell(c, 2), 2);
        x.sure(c);
        for (int k = 0; k < 2; k++) {
            x.back(k);
            due("image " + k + ": as it was", x.cell(c, 0), is);
            due("image " + k + ": marked", x.cell(c, 1), 1);
            due("image " + k + ": mended once", x.cell(c, 2), 1);
            x.flip(c, is == 3 ? 2 : 3);
            x.sure(c);
        }
    }

    /** A law that a change of this cell mends, as a line has spoilt it. */
    private static String lawOf(int cell) {
        String[] laws = {"keep length " + cell + " = 1", "keep name " + (cell - 3) + " = 5", "list 0", "twin 0", "keep total 0 = 5"};
        return laws[kindOf(cell)];
    }

    private static String spoiler(int cell) {
        int kind = kindOf(cell);
        return "let " + placeOf(cell) + " be " + (kind == 0 ? "nothing" : isNumber(cell) ? "0" : "node " + nodeOf(cell));
    }

    private static void prices(int c) {
        int price = FIRST_PRICES[kindOf(c)];
        says("each cell: 1 less, if a LINE wrote it, if it becomes what the COPY has");
        MendedWebs x = Checks.web(lawOf(c), spoiler(c) + Checks.times(";pay 1", 8));
        if (c >= 6) x.flip(0, nodeOf(c));
        x.step(1);
        due("'" + spoiler(c) + "'", x.least(1, 0), price - 1);
        due("that cell", x.mends(1, 0, 0, 0), c);
        x.step(7);
        due("of the latest 8 steps", x.least(1, 0), price - 1);
        x.step(1);
        due("no more", x.least(1, 0), price);
        due("that cell", x.mends(1, 0, 0, 0), c);
        if (kindOf(c) != 3) return;
        MendedWebs y = new MendedWebs();
        int ahead = (nodeOf(c) + 1) % 6;
        y.flip(0, ahead);
        y.flip(6 + 3 * ahead, nodeOf(c));
        Checks.laws(y, "twin 0");
        due("without a copy", y.least(1, 0), price);
        y.flip(c, ahead);
        y.copy();
        y.flip(c, NOTHING);
        due("the copy's", y.least(1, 0), price - 1);
        due("that cell", y.mends(1, 0, 0, 0), c);
        due("the node ahead", y.mends(1, 0, 0, 1), ahead);
    }

    // ---- each head

    /** All heads lead to nodes of their own: 0 to 0, 1; 1 to 2, 3; 2 to 4, 5; all is whole. */
    private static MendedWebs threeWays() {
        MendedWebs x = new MendedWebs();
        for (int h = 0; h < 3; h++) {
            x.flip(h, 2 * h);
            x.flip(6 + 6 * h, 2 * h + 1);
            x.flip(10 + 6 * h, 2 * h);
            x.flip(8 + 6 * h, 1);
            x.flip(11 + 6 * h, 2 + h);
        }
        return x;
    }

    private static void lawsOf(MendedWebs x, int h) {
        Checks.laws(x, "list " + h + ";twin " + h + ";rise " + h + ";keep length " + h + " = 2;keep total " + h + " = " + (3 + h) + ";apart "
            + h + " " + (h + 1) % 3 + ";apart " + (h + 2) % 3 + " " + h);
    }

    private static void head(int h) {
        says("each head: its laws");
        MendedWebs x = threeWays();
        lawsOf(x, h);
        for (int l = 0; l < 7; l++) due("law " + l + " of head " + h, x.holds(l), 1);
        int cells = 1 << h | 9 << 6 + 6 * h;
        int[] asked = {cells, cells | 9 << 7 + 6 * h, cells | 9 << 8 + 6 * h, cells, cells | 9 << 8 + 6 * h};
        for (int l = 0; l < 5; l++) due("asked for law " + l + " of head " + h, x.asked(l), asked[l]);
        due("first of its way", x.way(h, 0), 2 * h);
        due("second", x.way(h, 1), 2 * h + 1);
        due("no third", x.way(h, 2), -1);
        for (int o = 0; o < 3; o++) {
            int n = 2 * o + 1;
            x = threeWays();
            lawsOf(x, h);
            x.flip(6 + 3 * n, n);
            due("list " + h + ", a ring of " + o, x.holds(0), o == h ? 0 : 1);
            x.flip(6 + 3 * n, NOTHING);
            x.flip(7 + 3 * n, n);
            due("twin " + h + ", a back of " + o, x.holds(1), o == h ? 0 : 1);
            x.flip(8 + 3 * n, 0);
            due("rise " + h + ", a key of " + o, x.holds(2), o == h ? 0 : 1);
            due("total " + h + ", a key of " + o, x.holds(4), o == h ? 0 : 1);
            x.flip(o, n);
            due("length " + h + ", of " + o, x.holds(3), o == h ? 0 : 1);
            x = threeWays();
            lawsOf(x, h);
            x.flip(6 + 3 * n, 2 * ((o + 1) % 3));
            due("apart " + h + " and the next, " + o + " leads to the next's", x.holds(5), o == h ? 0 : 1);
            due("apart the one ahead and " + h + ", " + o + " leads to the next's", x.holds(6), (o + 1) % 3 == h ? 0 : 1);
        }
        for (int o = 0; o < 3; o++) {
            MendedWebs y = Checks.web("", "let head " + o + " be head " + h + ";let name " + o + " be name " + h + ";pay length " + h + ";pay total " + h);
            y.flip(h, 2 + h);
            y.flip(3 + h, 5 + h);
            y.flip(8 + 3 * (2 + h), 7);
            y.step(4);
            due("head " + o + " is head " + h, y.cell(o, 0), 2 + h);
            due("name " + o + " is name " + h, y.cell(3 + o, 0), 5 + h);
            due("length " + h, y.out(0), 1);
            due("total " + h, y.out(1), 7);
            int third = 3 - o - h;
            if (o != h) due("head " + third + " stays", y.cell(third, 0), NOTHING);
            if (o != h) due("name " + third + " stays", y.cell(3 + third, 0), 0);
        }
    }

    // ---- each node

    private static void node(int n) {
        says("each node");
        String[] words = {"next", "back", "key"};
        for (int k = 0; k < 3; k++) {
            MendedWebs x = Checks.web("", k < 2 ? "pay 1;let head 0 be " + words[k] + "(node " + n + ");let head 1 be " + words[k] + "(head 2)"
                : "pay 1;let name 0 be key(node " + n + ");let name 1 be key(head 2)");
            x.flip(2, n);
            x.flip(6 + 3 * n + k, 3);
            x.step(3);
            int first = k < 2 ? 0 : 3;
            due(words[k] + " of node " + n, x.cell(first, 0), 3);
            due(words[k] + " of head 2", x.cell(first + 1, 0), 3);
            due("its spread", x.spread(6 + 3 * n + k, 1), 1 << 6 + 3 * n + k | 1 << first | 1 << first + 1);
        }
        MendedWebs y = Checks.web("", "let head 0 be node " + n + ";let next(head 0) be head 0;let back(head 0) be node " + n + ";let key(head 0) be 9");
        y.step(4);
        due("node " + n, y.cell(0, 0), n);
        due("its next", y.cell(6 + 3 * n, 0), n);
        due("its back", y.cell(7 + 3 * n, 0), n);
        due("its key", y.cell(8 + 3 * n, 0), 9);
        due("writes", y.all(8), 4);
    }

    // ---- each law

    /** Twelve laws: name 0 is not 1 .. 9, name 1 not 1 .. 3. */
    private static String twelveLaws() {
        StringBuilder b = new StringBuilder();
        for (int l = 0; l < 12; l++) b.append(l > 0 ? ";" : "").append("keep not name ").append(l / 9).append("=").append(l % 9 + 1);
        return b.toString();
    }

    private static void seenIs(String what, MendedWebs x, int law, int since, int in, int late) {
        for (int l = 0; l < 12; l++) {
            due(what + ": law " + l + " broken since", x.seen(l, 0), l == law ? since : -1);
            due(what + ": law " + l + " seen in", x.seen(l, 1), l == law ? in : -1);
            due(what + ": law " + l + " late", x.seen(l, 2), l == law ? late : -1);
        }
    }

    private static void law(int law) {
        says("each law");
        MendedWebs x = Checks.web(twelveLaws(), "pay 1;pay 2");
        x.step(1);
        int cell = 3 + law / 9;
        x.flip(cell, law % 9 + 1);
        for (int l = 0; l < 12; l++) due("holds " + l + " where " + law + " does not", x.holds(l), l == law ? 0 : 1);
        due("a mend of it", x.least(1, 0), 2);
        due("by its cell", x.mends(1, 0, 0, 0), cell);
        due("to nought", x.mends(1, 0, 0, 1), 0);
        x.step(1);
        seenIs("not asked", x, law, 1, -1, -1);
        x.watch(3);
        x.step(1);
        seenIs("asked", x, law, 1, 2, 1);
        due("cost", x.all(6), 12);
        for (int k = 0; k < 2; k++) x.image(k);
        x.flip(cell, 0);
        x.step(1);
        for (int l = 0; l < 12; l++) due("late still: " + l, x.seen(l, 2), l == law ? 1 : -1);
        for (int k = 0; k < 2; k++) {
            Checks.laws(x, twelveLaws());
            x.step(1);
            x.back(k);
            seenIs("back " + k, x, law, 1, 2, 1);
        }
        MendedWebs y = Checks.web(twelveLaws(), "pay 1;pay 2");
        y.watch(2);
        y.flip(cell, law % 9 + 1);
        for (int s = 0; s < 12; s++) {
            y.step(1);
            due("law " + law + " in watch 2 behind step " + s, y.seen(law, 1), s < law ? -1 : law);
        }
        due("late", y.seen(law, 2), law);
        due("cost", y.all(6), 12);
        MendedWebs z = Checks.web(twelveLaws(), "let name " + law / 9 + " be " + (law % 9 + 1));
        due("a line bears on those of its name", z.bears(0), law < 9 ? 511 : 7 << 9);
        z.watch(1);
        z.step(1);
        seenIs("in watch 1", z, law, 0, 0, 0);
        due("cost of watch 1", z.all(6), law < 9 ? 9 : 3);
        due("all put in: this law and others end", z.putIn(1, 3), 171);
    }

    // ---- each line

    private static void line(int line) {
        says("each line");
        MendedWebs x = Checks.web("keep name 1 = 7", Checks.times("pay name 0;", line) + "let name 1 be name 2" + Checks.times(";pay name 0", 11 - line));
        x.flip(5, 4);
        x.step(12);
        due("line " + line + " wrote it", x.cell(4, 3), line);
        due("as name 2", x.cell(4, 0), 4);
        due("others were paid", x.all(3), 11);
        // Name 2 flipped ahead of step 0: it is in no spread since then.
        due("spread", x.spread(5, line), line == 0 ? 0 : 1 << 5 | 1 << 4);
        if (line < 11) due("spread since behind it", x.spread(5, line + 1), 1 << 5);
        due("a price", x.least(1, 0), line >= 4 ? 1 : 2);
        due("next is line 0", x.all(7), 0);
        for (int s = 0; s < 12; s++) {
            MendedWebs y = Checks.web("", Checks.times("pay name 0;", line) + "let name 1 be name 2" + Checks.times(";pay name 0", 11 - line));
            y.flip(5, 4);
            y.step(1);
            y.flip(5, 6);
            y.step(11);
            due("without step " + s, y.again(s), 11 - s);
            due("line " + line, y.cell(4, 0), s == line ? 0 : line == 0 ? (s < 1 ? 0 : 4) : s == 0 ? 0 : s == 1 ? 4 : 6);
        }
        for (int to = line; to < 12; to++) {
            MendedWebs y = Checks.web("keep name 1 = 7", "pay 1" + Checks.times(";pay name 0", 11));
            y.watch(3);
            due("a routine", y.routine(line, to), 0);
            int cost = 0;
            for (int s = 0; s < 12; s++) {
                y.step(1);
                if (s < line || s >= to) cost++;
                due("routine " + line + " .. " + to + " behind line " + s, y.all(6), cost);
            }
        }
    }

    // ---- each price

    private static void priceKept(int kind) {
        says("each PRICE: IMAGES keep it");
        MendedWebs x = new MendedWebs();
        x.image(0);
        x.price(kind, 9);
        x.image(1);
        x.price(kind, 1);
        x.back(0);
        due("kind " + kind + " at first", x.price(kind, 2), FIRST_PRICES[kind]);
        x.back(1);
        due("kind " + kind + " told", x.price(kind, 3), 9);
        for (int o = 0; o < 5; o++) due("kind " + o, x.price(o, 4), o == kind ? 3 : FIRST_PRICES[o]);
    }

    public static void main(String[] args) {
        for (int c = 0; c < 24; c++) {
            written(c);
            marked(c);
            offSpread(c);
            kept(c);
            prices(c);
        }
        for (int h = 0; h < 3; h++) head(h);
        for (int n = 0; n < 6; n++) node(n);
        for (int l = 0; l < 12; l++) {
            law(l);
            line(l);
        }
        for (int k = 0; k < 5; k++) priceKept(k);
        Checks.close();
    }
}
