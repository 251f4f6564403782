/** Terms III, promises 10 and 12 to 20: each sentence that names an edge has a test of its own. */
public final class EdgesOfStepsTest {
    private static final int NOTHING = -1;
    private static final int WITHOUT = -1000;
    private static final int[] FAR = {Integer.MIN_VALUE, Integer.MIN_VALUE + 1, -1001, -1000, -2, 1 << 24, Integer.MAX_VALUE};

    private EdgesOfStepsTest() { }

    private static void says(String words) {
        Checks.says(words);
    }

    private static void due(String what, long got, long want) {
        Checks.due(what, got, want);
    }

    private static MendedWebs web(String laws, String lines) {
        return Checks.web(laws, lines);
    }

    private static String times(String what, int n) {
        return Checks.times(what, n);
    }

    private static boolean isNumber(int cell) {
        return cell >= 3 && (cell < 6 || cell % 3 == 2);
    }

    private static void flips(MendedWebs x, int n) {
        for (int i = 0; i < n; i++) x.flip(23, i % 10);
    }

    // ---- Terms III: lines

    private static void nextLine() {
        says("III: the LINE that is next (0 at first, behind the last one LINE 0 again)");
        MendedWebs x = web("", "pay 10" + times(";pay 11", 10) + ";pay 12");
        due("at first", x.all(7), 0);
        x.step(11);
        due("the last one", x.all(7), 11);
        x.step(1);
        due("line 0 again", x.all(7), 0);
        x.step(2);
        due("line 1", x.all(7), 1 + 1);
        due("the first", x.out(0), 10);
        due("the last", x.out(11), 12);
        due("the first again", x.out(12), 10);
        due("the second again", x.out(13), 11);
        MendedWebs one = web("", "pay 1");
        one.step(3);
        due("one alone", one.all(7), 0);
        due("done three times", one.all(3), 3);
    }

    private static void passed() {
        says("III: First its TEST (all of it): is it not so, it is PASSED");
        String[] lines = {"pay 1 if 1 = 2", "pay key(nothing) if 1 = 2", "let next(nothing) be nothing if 2 < 1",
            "let name 0 be 10 if name 0 > 0", "let name 0 be key(head 0) if not 1 = 1", "let head 0 be next(nothing) if length 0 = 1",
            "let next(next(nothing)) be nothing if 1 = 2", "let key(back(head 0)) be 1 if 1 = 2", "let back(next(next(node 0))) be nothing if 1 = 2",
            "let head 0 be back(next(head 1)) if 1 = 2", "pay key(next(nothing)) if 1 = 2", "let next(head 0) be next(head 0) if 1 = 2"};
        for (String l : lines) {
            MendedWebs x = web("", l);
            x.step(1);
            due("'" + l + "' is passed", x.all(1), 1);
            due("'" + l + "' is not amiss", x.all(2), 0);
            due("'" + l + "' writes nothing", x.all(8), 0);
            due("'" + l + "' pays nothing", x.all(3), 0);
        }
    }

    private static void amiss(String line) {
        MendedWebs x = web("", line);
        for (int c = 3; c < 6; c++) x.flip(c, 5);
        x.step(1);
        due("'" + line + "' is amiss", x.all(2), 1);
        due("'" + line + "' is not passed", x.all(1), 0);
        due("'" + line + "' writes nothing", x.all(8), 3);
        due("'" + line + "' pays nothing", x.all(3) + x.all(4), 0);
        for (int c = 0; c < 24; c++) due("'" + line + "' leaves cell " + c, x.cell(c, 0), c >= 3 && c < 6 ? 5 : isNumber(c) ? 0 : NOTHING);
        due("the next step is the next line's", x.all(7), 0);
        due("it is a step", x.all(0), 1);
    }

    private static void amissInTest() {
        says("III: NEXT, BACK, KEY of NOTHING in its TEST (all of it): it is AMISS");
        amiss("pay 1 if key(nothing) = 0");
        amiss("pay 1 if key(nothing) = 1");
        amiss("pay 1 if key(head 2) = 0");
        amiss("pay 1 if key(next(node 0)) = 0");
        amiss("pay 1 if key(back(node 5)) = 0");
        amiss("pay 1 if key(next(nothing)) = 0");
        amiss("pay 1 if key(back(nothing)) = 0");
        amiss("pay 1 if 1 = 1 or key(nothing) = 0");
        amiss("pay 1 if 1 = 2 and key(nothing) = 0");
        amiss("pay 1 if key(nothing) = 0 or 1 = 1");
        amiss("pay 1 if not (1 = 2 and not key(nothing) = 0)");
        amiss("let name 0 be 1 if 1 = [2 + key(head 0)]");
    }

    private static void amissInPlace() {
        says("III: NEXT, BACK, KEY of NOTHING in the NODE of its PLACE: it is AMISS");
        amiss("let next(nothing) be nothing");
        amiss("let back(nothing) be nothing");
        amiss("let key(nothing) be 1");
        amiss("let next(head 0) be node 1");
        amiss("let back(next(node 0)) be node 1");
        amiss("let key(back(node 0)) be 1");
        amiss("let key(next(next(node 5))) be 1 if 1 = 1");
    }

    private static void amissInValue() {
        says("III: NEXT, BACK, KEY of NOTHING in what it is to be (or the SUM to pay): it is AMISS");
        amiss("let head 0 be next(nothing)");
        amiss("let head 0 be back(nothing)");
        amiss("let head 0 be next(head 1)");
        amiss("let next(node 0) be back(next(node 1))");
        amiss("let back(node 0) be next(back(node 1))");
        amiss("let name 0 be key(nothing)");
        amiss("let key(node 0) be 1 + key(next(node 0)) - 1");
        amiss("pay key(nothing)");
        amiss("pay 1 - [2 - key(back(node 3))]");
    }

    private static void nothingIsFine() {
        says("III: NOTHING itself is what a HEAD, NEXT, BACK can be");
        MendedWebs x = web("", "let next(node 0) be nothing;let head 0 be next(node 0);let back(node 5) be head 1");
        x.flip(0, 3);
        x.flip(22, 3);
        x.step(3);
        due("none amiss", x.all(2), 0);
        due("written", x.all(8), 5);
        due("head 0", x.cell(0, 0), NOTHING);
        due("back of node 5", x.cell(22, 0), NOTHING);
    }

    private static void numbersAmiss() {
        says("III: a NUMBER for a CELL that is not 0 .. 9: it is AMISS, nothing is done");
        amiss("let name 0 be 10");
        amiss("let name 1 be 99 + 99");
        amiss("let name 2 be 0 - 1");
        amiss("let name 0 be name 0 + name 0");
        amiss("let key(node 0) be 10");
        amiss("let key(node 5) be 0 - 1");
        MendedWebs x = web("", "let name 0 be 9;let name 1 be 1 - 1;let key(node 0) be 10 - 1;let key(node 5) be 0");
        x.flip(4, 5);
        x.flip(23, 5);
        x.step(4);
        due("none amiss", x.all(2), 0);
        due("9", x.cell(3, 0), 9);
        due("0", x.cell(4, 0), 0);
        due("9 of a key", x.cell(8, 0), 9);
        due("0 of a key", x.cell(23, 0), 0);
    }

    private static void anySumIsPaid() {
        says("III: what is paid is no CELL: it may be any NUMBER");
        MendedWebs x = web("", "pay 10;pay 0 - 1;pay 99" + times(" + 99", 28) + ";pay 0" + times(" - 99", 28) + ";pay 0");
        x.step(5);
        due("none amiss", x.all(2), 0);
        int[] want = {10, -1, 99 * 29, -99 * 28, 0};
        for (int i = 0; i < 5; i++) due("out " + i, x.out(i), want[i]);
    }

    private static void nodeAndValueAhead() {
        says("III: Then the NODE of its PLACE, then what it is to be: both ahead of the write");
        MendedWebs x = web("", "let next(next(node 0)) be next(node 0);let next(node 0) be next(next(node 0))");
        x.flip(6, 1);
        x.step(1);
        due("next of node 1", x.cell(9, 0), 1);
        x.flip(9, 4);
        x.step(1);
        due("next of node 0", x.cell(6, 0), 4);
        due("next of node 1 stays", x.cell(9, 0), 4);
    }

    // ---- Terms III: marks

    /** Whether a line marks the cell that it writes, where just that cell is marked. */
    private static void markBy(String line, int marked, int written, int want) {
        MendedWebs x = web("", line);
        Checks.mark(x, marked);
        // Head 0 and node 2 lead to node 4, that one to node 5.
        int[] cells = {0, 12, 13, 18, 19};
        int[] values = {2, 4, 4, 5, 2};
        for (int i = 0; i < cells.length; i++) x.flip(cells[i], values[i]);
        x.flip(3, 1);
        x.step(1);
        due("'" + line + "' was done", x.all(1) + x.all(2), 0);
        due("'" + line + "' with cell " + marked + " marked", x.cell(written, 1), want);
        MendedWebs p = web("", "pay 7 if " + (line.contains(" if ") ? line.substring(line.indexOf(" if ") + 4) : "1 = 1"));
        if (!line.contains(" if ")) return;
        Checks.mark(p, marked);
        for (int i = 0; i < cells.length; i++) p.flip(cells[i], values[i]);
        p.flip(3, 1);
        p.step(1);
        due("a pay with that test is held back", p.all(4), want);
        due("or paid", p.all(3), 1 - want);
    }

    private static void markedByReading() {
        says("III: MARKED just if any CELL that was read for it is (TEST, NODES, SUM: HEADS, NAMES, NEXT, BACK, KEYS, also those on WAYS)");
        markBy("let head 1 be head 0", 0, 1, 1);
        markBy("let head 1 be next(head 0)", 0, 1, 1);
        markBy("let name 1 be name 0", 3, 4, 1);
        markBy("let head 1 be next(node 2)", 12, 1, 1);
        markBy("let head 1 be back(node 2)", 13, 1, 1);
        markBy("let name 1 be key(node 2)", 14, 4, 1);
        markBy("let name 1 be 5 - [1 + name 0]", 3, 4, 1);
        markBy("let name 1 be 5 if name 0 = 1", 3, 4, 1);
        markBy("let name 1 be 5 if not key(node 2) = 10", 14, 4, 1);
        markBy("let next(head 0) be nothing", 0, 12, 1);
        markBy("let key(next(next(node 2))) be 1", 12, 23, 1);
        markBy("let key(next(next(node 2))) be 1", 18, 23, 1);
        markBy("let name 1 be length 0", 0, 4, 1);
        markBy("let name 1 be length 0", 18, 4, 1);
        markBy("let name 1 be total 0 - total 0", 20, 4, 1);
        markBy("let name 1 be 5 if length 0 > 0", 12, 4, 1);
    }

    /** A line that reads this cell alone, and the cell that it writes. */
    private static String readerOf(int cell) {
        String node = "(node " + (cell - 6) / 3 + ")";
        if (cell < 3) return "let back(node 0) be head " + cell;
        if (cell < 6) return "let key(node 0) be name " + (cell - 3);
        if (cell % 3 == 2) return "let name 0 be key" + node;
        return "let head 0 be " + (cell % 3 == 0 ? "next" : "back") + node;
    }

    private static int writtenBy(int cell) {
        return cell < 3 ? 7 : cell < 6 ? 8 : cell % 3 == 2 ? 3 : 0;
    }

    private static void markedByEach() {
        says("III: MARKED just if any CELL that was read for it is: each of the 24");
        for (int c = 0; c < 24; c++) {
            String line = readerOf(c);
            for (int marked = 0; marked < 24; marked++) {
                MendedWebs x = web("", line);
                Checks.mark(x, marked);
                x.step(1);
                due("'" + line + "' with cell " + marked + " marked", x.cell(writtenBy(c), 1), marked == c ? 1 : 0);
                due("it is written", x.all(1) + x.all(2), 0);
                due("the mark of cell " + marked + " stays", x.cell(marked, 1), marked == writtenBy(c) ? 0 : 1);
            }
            MendedWebs x = web("", line);
            x.step(1);
            for (int o = 0; o < 24; o++) due("spread of cell " + o + " by '" + line + "'", x.spread(o, 0),
                o == c ? 1 << c | 1 << writtenBy(c) : o == writtenBy(c) ? 0 : 1 << o);
        }
    }

    private static void markedByAll() {
        says("III: with \"or\", \"and\" all are read");
        markBy("let name 1 be 5 if 1 = 1 or name 0 = 1", 3, 4, 1);
        markBy("let name 1 be 5 if name 0 = 1 or 1 = 1", 3, 4, 1);
        markBy("let name 1 be 5 if not (1 = 2 and name 0 = 1)", 3, 4, 1);
        markBy("let name 1 be 5 if 1 = 1 or 1 = 2 and name 0 = 9", 3, 4, 1);
    }

    private static void notMarked() {
        says("III: MARKED just if any CELL that was read for it is: not by others, nor by itself");
        markBy("let name 1 be 5", 4, 4, 0);
        markBy("let name 1 be name 2", 3, 4, 0);
        markBy("let name 1 be name 2", 4, 4, 0);
        markBy("let next(node 2) be nothing", 12, 12, 0);
        markBy("let next(node 2) be nothing", 13, 12, 0);
        markBy("let next(head 0) be nothing", 12, 12, 0);
        markBy("let head 1 be next(node 2)", 13, 1, 0);
        markBy("let name 1 be length 0", 14, 4, 0);
        markBy("let name 1 be length 0", 6, 4, 0);
        markBy("let name 1 be length 0", 1, 4, 0);
        markBy("let name 1 be total 0 - total 0", 13, 4, 0);
        markBy("let name 1 be 5 if name 2 = 0", 3, 4, 0);
        markBy("let head 1 be node 2", 0, 1, 0);
    }

    private static void amissKeepsMarks() {
        says("III: it is AMISS, nothing is done; PASSED: nor is then");
        MendedWebs x = web("", "let name 0 be 10;let name 0 be 1 if 1 = 2;let name 1 be name 0 + 9");
        Checks.mark(x, 3);
        x.flip(3, 1);
        x.step(3);
        due("marked still", x.cell(3, 1), 1);
        due("as it was", x.cell(3, 0), 1);
        due("not marked", x.cell(4, 1), 0);
        due("two amiss", x.all(2), 2);
    }

    private static void heldBack() {
        says("III: A \"pay\" for which any MARKED one was read is HELD BACK; else it is PAID");
        MendedWebs x = web("", "pay name 0;pay name 1;pay name 1 + name 0;pay 3 if name 0 = 9;pay 4 if 1 = 1 or name 0 = 1;pay 5 if name 0 < 9;pay key(head 0)");
        Checks.mark(x, 3);
        x.flip(3, 9);
        x.step(7);
        due("held back", x.all(4), 4);
        due("paid", x.all(3), 1);
        due("passed", x.all(1), 1);
        due("amiss", x.all(2), 1);
        due("out", x.out(0), 0);
        due("no more", x.out(1), WITHOUT);
        due("no writes", x.all(8), 2);
    }

    private static void outOf100() {
        says("III: PAID (OUT, 100 at most are kept)");
        MendedWebs x = web("", "pay name 0;let name 0 be name 0 + 1 if name 0 < 9");
        x.step(64);
        x.step(64);
        x.step(64);
        x.step(6);
        due("99 were paid", x.all(3), 99);
        due("the 99th", x.out(98), 9);
        due("no 100th", x.out(99), WITHOUT);
        x.flip(3, 7);
        x.step(2);
        due("the 100th", x.out(99), 7);
        x.flip(3, 6);
        x.step(2);
        due("no 101st", x.out(100), WITHOUT);
        x.step(4);
        for (int i = 100; i < 104; i++) due("none of those behind: " + i, x.out(i), WITHOUT);
        due("the 100th is as it was", x.out(99), 7);
        due("the first, too", x.out(1), 1);
        due("they are paid", x.all(3), 103);
    }

    // ---- Terms III: lots

    private static int draw(int s) {
        return (int) ((s * 1103L + 12345) % 1000003);
    }

    private static void chances() {
        says("III: LOTS: if CHANCE (0 .. 1000; 0 at first) is above 0: a DRAW of 1000; is it below CHANCE, a CELL flips");
        MendedWebs x = web("", "pay 1");
        for (int i = 0; i < 60; i++) x.step(64);
        due("0 at first", x.all(5), 0);
        x.lots(0, 5);
        for (int i = 0; i < 60; i++) x.step(64);
        due("none of 0", x.all(5), 0);
        x.lots(1000, 5);
        x.step(64);
        due("all of 1000", x.all(5), 64);
        // The first draw of 1000 by seed 0 is 345.
        x.lots(345, 0);
        x.step(1);
        due("345 is not below 345", x.all(5), 64);
        x.lots(346, 0);
        x.step(1);
        due("345 is below 346", x.all(5), 65);
        int seed = 0;
        while (draw(seed) % 1000 != 0) seed++;
        x.lots(1, seed);
        x.step(1);
        due("0 is below 1", x.all(5), 66);
        while (draw(seed) % 1000 != 999) seed++;
        x.lots(999, seed);
        x.step(1);
        due("999 is not below 999", x.all(5), 66);
        x.lots(1000, seed);
        x.step(1);
        due("999 is below 1000", x.all(5), 67);
    }

    private static void flipsOfEach() {
        says("III: a CELL flips: of a DRAW of 24, it becomes a DRAW of 7 less 1, or (a NUMBER) of 10");
        for (int cell = 0; cell < 24; cell++) {
            for (int drawn = 0; drawn < (isNumber(cell) ? 10 : 7); drawn += isNumber(cell) ? 9 : 6) {
                int seed = 0;
                while (draw(draw(seed)) % 24 != cell || draw(draw(draw(seed))) % (isNumber(cell) ? 10 : 7) != drawn) seed++;
                MendedWebs x = web("", "pay 1");
                x.flip(cell, 2);
                x.lots(1000, seed);
                x.step(1);
                for (int c = 0; c < 24; c++)
                    due("cell " + c + " by seed " + seed, x.cell(c, 0), c == cell ? isNumber(c) ? drawn : drawn - 1 : isNumber(c) ? 0 : NOTHING);
            }
        }
    }

    private static void draws() {
        says("III: DRAWS: s becomes (s times 1103 and 12345) modulo 1,000,003; a DRAW of n is the new s modulo n");
        int[] seeds = {0, 1, 895, 896, 906, 907, 999999, 1000000};
        for (int seed : seeds) {
            int first = draw(seed) % 1000;
            MendedWebs x = web("", "pay 1");
            x.lots(first, seed);
            x.step(1);
            due("seed " + seed + " is not below " + first, x.all(5), 0);
            x.lots(first + 1, seed);
            x.step(1);
            due("seed " + seed + " is below " + (first + 1), x.all(5), 1);
        }
        says("III: DRAWS go on from one to the next, a DRAW that is not below CHANCE, too");
        MendedWebs x = web("", "pay 1");
        x.lots(300, 1000000);
        int s = 1000000;
        int flips = 0;
        for (int i = 0; i < 200; i++) {
            s = draw(s);
            if (s % 1000 < 300) {
                s = draw(draw(s));
                flips++;
            }
        }
        for (int i = 0; i < 4; i++) x.step(50);
        due("flips of 200 steps", x.all(5), flips);
    }

    private static void lotsBehindAll() {
        says("III: Then the LOTS: behind lines that were PASSED, AMISS, HELD BACK, too");
        MendedWebs x = web("", "pay 1 if 1 = 2;let name 0 be 10;pay name 2;let name 1 be 1");
        x.lots(1000, 3);
        x.step(4);
        due("four flips", x.all(5), 4);
        says("III: (MARKED as before)");
        for (int cell = 0; cell < 24; cell++) {
            int seed = 0;
            while (draw(draw(seed)) % 24 != cell) seed++;
            MendedWebs y = web("", "pay 1");
            Checks.mark(y, cell);
            y.lots(1000, seed);
            y.step(1);
            for (int c = 0; c < 24; c++) due("mark of cell " + c + " behind a flip of " + cell, y.cell(c, 1), c == cell ? 1 : 0);
            MendedWebs z = web("", "pay 1");
            z.lots(1000, seed);
            z.step(1);
            due("a flip marks not", z.cell(cell, 1), 0);
        }
    }

    private static void flipToTheSame() {
        says("III: of a flip (by hand, too): a flip to what a CELL is, is a WRITE, too");
        MendedWebs x = web("", "pay 1");
        x.flip(3, 0);
        due("by hand", x.all(8), 1);
        Checks.row(x, 3, 0, 0);
        due("of a row", x.all(8), 3);
        int seed = 0;
        while (draw(draw(seed)) % 24 != 3 || draw(draw(draw(seed))) % 10 != 0) seed++;
        x.lots(1000, seed);
        x.step(1);
        due("by lots", x.all(8), 4);
        due("as it was", x.cell(3, 0), 0);
        MendedWebs y = web("", "let name 0 be name 0");
        y.step(2);
        due("of a line, too", y.all(8), 2);
    }

    // ---- Terms III: what is kept

    private static void writesOf200() {
        says("III: WRITES are kept, the latest 200");
        MendedWebs x = web("", "let name 0 be 1;pay 1");
        due("none", x.all(8), 0);
        x.step(1);
        due("one", x.all(8), 1);
        flips(x, 198);
        due("199", x.all(8), 199);
        flips(x, 1);
        due("200", x.all(8), 200);
        due("the first is kept", x.cell(3, 3), 0);
        due("its step has all its writes", x.spread(3, 0), 0);
        flips(x, 1);
        due("200 of 201", x.all(8), 200);
        due("the first is kept no more", x.cell(3, 3), -1);
        due("its step has not", x.spread(3, 0), -1);
        flips(x, 199);
        due("200 of 400", x.all(8), 200);
        due("what they wrote stays", x.cell(3, 0), 1);
        flips(x, 51);
        due("200 of 451", x.all(8), 200);
    }

    private static void latestLineOf() {
        says("III: of a LINE, of a flip (LINE NONE; by hand, too), of a mend (LINE -2)");
        MendedWebs x = web("", "let name 0 be 1" + times(";pay 1", 10) + ";let name 0 be 2");
        x.step(1);
        due("line 0", x.cell(3, 3), 0);
        x.step(11);
        due("line 11", x.cell(3, 3), 11);
        x.flip(3, 4);
        due("a flip", x.cell(3, 3), 11);
        Checks.row(x, 3, 5);
        due("a row", x.cell(3, 3), 11);
        Checks.mark(x, 3);
        due("a mend", x.cell(3, 3), 11);
        due("a cell that was but mended", markedName1(), -1);
        due("a cell that was but flipped", x.flip(4, 1) + x.cell(4, 3), -1);
    }

    private static int markedName1() {
        MendedWebs x = new MendedWebs();
        Checks.mark(x, 4);
        return x.cell(4, 3);
    }

    private static void stepsOf200() {
        says("III: Of the latest 200 STEPS are kept which LINE it was and whether it was AMISS");
        MendedWebs x = web("", "pay 1");
        for (int i = 0; i < 4; i++) x.step(50);
        due("the first of 200", x.again(0), 199);
        x.step(1);
        due("the first of 201", x.again(0), -3);
        due("the second of 201", x.again(1), 199);
        for (int i = 0; i < 4; i++) x.step(50);
        due("the second of 401", x.again(200), -3);
        due("the latest but 199", x.again(201), 199);
        due("the latest", x.again(400), 0);
        due("not yet", x.again(401), -1);
        MendedWebs y = web("", "let name 0 be 0;pay 1");
        for (int i = 0; i < 5; i++) y.step(60);
        due("STEPS behind are those that were: the last one", y.again(299), 0);
        due("of 300", y.again(150), 148);
        due("the first kept", y.again(100), 197);
        due("kept no more", y.again(99), -3);
        due("it was, long ago", x.again(0), -3);
    }

    // ---- Terms III: watch

    private static void watches() {
        says("III: WATCH: 0 none (at first)");
        MendedWebs x = web("keep 1 = 2;list 0", "let head 0 be nothing");
        x.step(3);
        due("cost", x.all(6), 0);
        due("not seen", x.seen(0, 1), -1);
        due("it was none", x.watch(3), 0);
        says("III: WATCH: 3 all. Each LAW that is asked COSTS one");
        x.step(3);
        due("cost", x.all(6), 6);
        due("seen", x.seen(0, 1), 3);
        Checks.laws(x, times("list 0;", 11) + "keep 1 = 2");
        x.step(1);
        due("twelve", x.all(6), 18);
        due("the twelfth is seen", x.seen(11, 1), 6);
    }

    private static void watchOfLine() {
        says("III: WATCH: 1 the LAWS on which the LINE bears (if it was not PASSED, AMISS)");
        MendedWebs x = web("list 0;twin 0;keep name 0 = 1", "let head 0 be nothing;let name 0 be 1;let head 0 be nothing if 1 = 2;"
            + "let name 0 be 10;pay 1;let key(node 0) be 1");
        x.watch(1);
        int[] cost = {2, 3, 3, 3, 3, 3};
        for (int i = 0; i < cost.length; i++) {
            x.step(1);
            due("behind line " + i, x.all(6), cost[i]);
        }
        due("law 2 was not asked when it was broken", x.seen(2, 2), -1);
    }

    private static void watchOfOne() {
        says("III: WATCH: 2 LAW number STEPS modulo how many there are (STEPS: how many were done, this one not)");
        MendedWebs x = web("keep 1 = 2;keep 1 = 3;keep 1 = 4", "pay 1 if 1 = 2");
        x.watch(2);
        int[][] seen = {{0, -1, -1}, {0, 1, -1}, {0, 1, 2}, {0, 1, 2}};
        for (int i = 0; i < 4; i++) {
            x.step(1);
            for (int l = 0; l < 3; l++) due("law " + l + " behind step " + i, x.seen(l, 1), seen[i][l]);
            due("cost", x.all(6), i + 1);
        }
        due("late 0", x.seen(0, 2), 0);
        due("late 2", x.seen(2, 2), 2);
        Checks.laws(x, "keep 1 = 2;keep 1 = 3");
        x.step(1);
        due("4 modulo 2", x.seen(0, 1), 4);
        due("not law 1", x.seen(1, 1), -1);
        Checks.laws(x, "keep 1 = 2");
        x.step(2);
        due("modulo 1", x.all(6), 7);
        due("one law", x.seen(0, 1), 5);
    }

    private static void watchWithoutLaws() {
        says("III: WATCH: how many there are: none");
        for (int how = 0; how <= 3; how++) {
            MendedWebs x = web("", "let head 0 be nothing");
            x.watch(how);
            due("steps in watch " + how, x.step(3), 3);
            due("cost in watch " + how, x.all(6), 0);
        }
    }

    private static void routines() {
        says("III: behind a LINE of it that is not its last one nothing is asked");
        MendedWebs x = web("keep 1 = 2", "let name 0 be 1;pay 1;pay 2;pay 3;pay 4");
        x.watch(3);
        due("told", x.routine(1, 3), 0);
        int[] cost = {1, 1, 1, 2, 3};
        for (int i = 0; i < 5; i++) {
            x.step(1);
            due("behind line " + i, x.all(6), cost[i]);
        }
        for (int l = 0; l < 5; l++) {
            due("one line: " + l, x.routine(l, l), 0);
            int before = x.all(6);
            x.step(5);
            due("all are asked", x.all(6), before + 5);
        }
        due("all lines", x.routine(0, 4), 0);
        int before = x.all(6);
        x.step(10);
        due("behind the last one", x.all(6), before + 2);
        for (int how = 1; how <= 2; how++) {
            MendedWebs y = web("keep name 0 = 0", "let name 0 be 0;let name 0 be 0");
            y.watch(how);
            y.routine(0, 1);
            y.step(1);
            due("nothing is asked in watch " + how, y.all(6), 0);
            y.step(1);
            due("asked in watch " + how, y.all(6), 1);
        }
        says("III: behind a LINE of it that is not its last one nothing is asked: be it PASSED, AMISS, HELD BACK, too");
        for (int how = 1; how <= 3; how++) {
            MendedWebs y = web("keep name 0 = 0", "let name 0 be 0 if 1 = 2;let name 0 be 10;pay name 1;pay 1;let name 0 be 0;let name 0 be 10;pay 1 if 1 = 2");
            Checks.mark(y, 4);
            Checks.laws(y, "keep name 0 = 1;keep 1 = 2");
            y.watch(how);
            y.routine(0, 4);
            y.step(4);
            due("passed, amiss, held, paid in watch " + how, y.all(6), 0);
            due("they were", y.all(1) * 1000 + y.all(2) * 100 + y.all(4) * 10 + y.all(3), 1111);
            for (int l = 0; l < 2; l++) due("law " + l + " is not seen in watch " + how, y.seen(l, 1), -1);
            y.step(1);
            due("its last one in watch " + how, y.all(6), how == 3 ? 2 : 1);
            due("late in watch " + how, y.seen(0, 2), 4);
            y.step(2);
            due("behind it: amiss, passed in watch " + how, y.all(6), how == 3 ? 6 : how == 2 ? 3 : 1);
        }
        says("III: A ROUTINE is LINES from one to another (told; none at first)");
        MendedWebs z = web("keep name 0 = 0", "pay 1;pay 2");
        z.watch(3);
        z.step(2);
        due("none at first", z.all(6), 2);
    }

    private static void seenOnce() {
        says("III: One that does not HOLD when it is asked, and is not SEEN, is SEEN in this STEP (till it HOLDS behind a STEP again)");
        MendedWebs x = web("keep name 0 = 0", "pay 1");
        x.flip(3, 1);
        x.step(1);
        due("not asked, not seen", x.seen(0, 1), -1);
        x.watch(3);
        due("not till a step", x.seen(0, 1), -1);
        x.step(1);
        due("seen", x.seen(0, 1), 1);
        due("late by one", x.seen(0, 2), 1);
        x.step(1);
        due("seen still in that", x.seen(0, 1), 1);
        x.watch(0);
        x.step(1);
        due("not asked, seen still", x.seen(0, 1), 1);
        x.flip(3, 0);
        due("it holds, but not behind a step", x.seen(0, 1), 1);
        x.step(1);
        due("it holds behind a step, though not asked", x.seen(0, 1), -1);
        due("late of the latest time", x.seen(0, 2), 1);
        x.flip(3, 2);
        x.step(1);
        due("broken anew, not seen", x.seen(0, 1), -1);
        due("since", x.seen(0, 0), 5);
        due("late of the latest time still", x.seen(0, 2), 1);
        x.watch(3);
        x.flip(3, 0);
        x.flip(3, 2);
        x.step(1);
        due("it held between two steps: behind none", x.seen(0, 0), 5);
        due("seen anew", x.seen(0, 1), 6);
        due("late by one again", x.seen(0, 2), 1);
    }

    private static void seenTwice() {
        says("III: One that is not SEEN is SEEN in this STEP: in each WATCH, each time that it is BROKEN anew");
        for (int how = 1; how <= 3; how++) {
            MendedWebs x = web("keep name 0 = 0", "let name 0 be 1;let name 0 be 0");
            x.watch(how);
            for (int i = 0; i < 4; i++) {
                x.step(1);
                due("seen in " + 2 * i + ", watch " + how, x.seen(0, 1), 2 * i);
                due("since", x.seen(0, 0), 2 * i);
                x.step(1);
                due("it holds", x.seen(0, 1), -1);
                due("late still", x.seen(0, 2), 0);
            }
            x.watch(0);
            x.step(1);
            x.flip(3, 2);
            Checks.lines(x, "let name 0 be 3");
            x.watch(how);
            x.step(1);
            due("late, watch " + how, x.seen(0, 2), 1);
            due("in", x.seen(0, 1), 9);
        }
    }

    private static void brokenSince() {
        says("III: BROKEN since a STEP: behind that one and all later ones it did not HOLD");
        MendedWebs x = web("keep name 0 = 0;keep name 1 = 0", "pay 1;let name 0 be 1;let name 0 be 2;let name 0 be 0");
        x.step(1);
        due("not broken", x.seen(0, 0), -1);
        x.step(1);
        due("since 1", x.seen(0, 0), 1);
        x.step(1);
        due("since 1 still", x.seen(0, 0), 1);
        due("the other one not", x.seen(1, 0), -1);
        x.step(1);
        due("it holds", x.seen(0, 0), -1);
        x.step(2);
        due("since 5", x.seen(0, 0), 5);
        Checks.laws(x, "keep 1 = 2");
        x.step(1);
        due("since the first step of new laws", x.seen(0, 0), 6);
        MendedWebs y = web("keep 1 = 2", "pay 1");
        y.step(1);
        due("since step 0", y.seen(0, 0), 0);
    }

    private static void late() {
        says("III: LATE: how many STEPS behind the one since which it is BROKEN it was SEEN");
        MendedWebs x = web("keep name 0 = 0", "let name 0 be 1;pay 1;pay 2;pay 3;pay 4;let name 0 be 0");
        x.watch(3);
        x.step(1);
        due("0", x.seen(0, 2), 0);
        x.step(5);
        due("0 still, where it holds", x.seen(0, 2), 0);
        x.routine(0, 4);
        x.step(4);
        due("0 of the latest time, not seen yet", x.seen(0, 2), 0);
        x.step(1);
        due("4", x.seen(0, 2), 4);
        due("since 6", x.seen(0, 0), 6);
        due("in 10", x.seen(0, 1), 10);
    }

    // ---- Promises 10, 12 to 20

    private static void cellEdges() {
        says("10: NOTHING (-1000) without");
        MendedWebs x = web("", "let name 0 be 1");
        due("what 0", x.cell(0, 0), NOTHING);
        due("what 1", x.cell(0, 1), 0);
        due("what 2", x.cell(0, 2), 0);
        due("what 3", x.cell(0, 3), -1);
        int[] wrong = {-1, 4, 5, Integer.MIN_VALUE, Integer.MAX_VALUE};
        for (int w : wrong) {
            due("what " + w, x.cell(0, w), WITHOUT);
            due("cell 24, what " + w, x.cell(24, w), WITHOUT);
        }
        for (int c : FAR) for (int w = 0; w < 4; w++) due("cell " + c + ", what " + w, x.cell(c, w), WITHOUT);
        says("10: 2 how often it was mended");
        for (int i = 1; i <= 3; i++) {
            Checks.mark(x, 5);
            due("mends", x.cell(5, 2), i);
        }
        x.flip(5, 0);
        x.sure(5);
        due("flips, sure do not count", x.cell(5, 2), 3);
        due("nor do mends of others", x.cell(4, 2), 0);
    }

    private static void flipEdges() {
        says("12: what it was. -1 a CELL, a value that can't be");
        MendedWebs x = new MendedWebs();
        due("was", x.flip(23, 9), 0);
        due("was 9", x.flip(23, 9), 9);
        for (int v : FAR) {
            due("head to " + v, x.flip(0, v), -1);
            due("status", x.status(), -1);
            due("name to " + v, x.flip(3, v), -1);
        }
        for (int c : FAR) due("cell " + c, x.flip(c, 0), -1);
        due("no writes of these", x.all(8), 2);
        due("was NOTHING", x.flip(2, 0), NOTHING);
        due("that is no refusal", x.status(), 0);
    }

    private static void rowEdges() {
        says("13: one for each CELL from a CELL on");
        int[] all = {0, 1, 2, 3, 4, 5, 0, 1, 2, 3, 4, 5, 0, 1, 2, 3, 4, 5, 0, 1, 2, 3, 4, 5};
        MendedWebs x = new MendedWebs();
        due("24 from cell 0", Checks.row(x, 0, all), 24);
        for (int c = 0; c < 24; c++) due("cell " + c, x.cell(c, 0), c % 6);
        due("25 from cell 0", Checks.row(x, 0, new int[25]), -6);
        due("24 from cell 1", Checks.row(x, 1, new int[24]), -6);
        due("400 from cell 0", Checks.row(x, 0, new int[400]), -6);
        for (int c = 0; c < 24; c++) due("cell " + c + " stays", x.cell(c, 0), c % 6);
        due("one from cell 23", Checks.row(x, 23, 9), 1);
        due("it is", x.cell(23, 0), 9);
        due("two from cell 23", Checks.row(x, 23, 8, 8), -6);
        due("it stays", x.cell(23, 0), 9);
        due("empty from cell 23", Checks.row(x, 23), -6);
        due("23 from cell 1", Checks.row(x, 1, new int[23]), 23);
        due("head 0 is ahead of it", x.cell(0, 0), 0);
    }

    private static void rowPassedBy() {
        says("13: 255 is NOTHING; one that can't be there is passed by (the CELL stays); how many CELLS were written");
        for (int c = 0; c < 24; c++) {
            MendedWebs x = new MendedWebs();
            x.flip(c, 3);
            int most = isNumber(c) ? 9 : 5;
            int[] stay = {most + 1, 127, 128, 254, isNumber(c) ? 255 : 6};
            for (int b : stay) {
                due(b + " for cell " + c, Checks.row(x, c, b), 0);
                due("no refusal", x.status(), 0);
                due("cell " + c + " stays", x.cell(c, 0), 3);
            }
            due("no writes", x.all(8), 1);
            due(most + " for cell " + c, Checks.row(x, c, most), 1);
            due("it is", x.cell(c, 0), most);
            due("0 for cell " + c, Checks.row(x, c, 0), 1);
            due("it is", x.cell(c, 0), 0);
            if (isNumber(c)) continue;
            due("255 for cell " + c, Checks.row(x, c, 255), 1);
            due("it is", x.cell(c, 0), NOTHING);
        }
        for (int b = 0; b < 256; b++) {
            MendedWebs x = new MendedWebs();
            due("a node of byte " + b, Checks.row(x, 7, b), b <= 5 || b == 255 ? 1 : 0);
            due("a number of byte " + b, Checks.row(x, 23, b), b <= 9 ? 1 : 0);
            due("cell 7", x.cell(7, 0), b <= 5 ? b : NOTHING);
            due("cell 23", x.cell(23, 0), b <= 9 ? b : 0);
        }
        MendedWebs x = new MendedWebs();
        due("those behind one passed by", Checks.row(x, 2, 9, 9, 255, 9), 2);
        due("head 2", x.cell(2, 0), NOTHING);
        due("name 0", x.cell(3, 0), 9);
        due("name 1", x.cell(4, 0), 0);
        due("name 2", x.cell(5, 0), 9);
    }

    private static void rowIsFlips() {
        says("13: written as flips");
        MendedWebs x = web("", "let name 1 be name 0;pay 1");
        Checks.mark(x, 3);
        Checks.row(x, 3, 7);
        due("marked as before", x.cell(3, 1), 1);
        due("no mend", x.cell(3, 2), 1);
        x.step(1);
        Checks.row(x, 4, 5);
        due("of no line", x.cell(4, 3), 0);
        due("not in a spread", x.spread(3, 0), 0);
        due("of the step that is next", x.spread(4, 0), 0);
        x.step(1);
        due("taken back with it", x.again(1), 0);
        due("as line 0 wrote it", x.cell(4, 0), 7);
        says("13: the TAPE is empty then");
        Checks.feed(x, 1, 2);
        x.row(3);
        due("behind a row", x.end(1), -1);
        Checks.feed(x, 1, 2);
        due("-6", x.row(23), -6);
        due("behind -6", x.end(1), -1);
        Checks.feed(x, 1, 2);
        due("-1", x.row(24), -1);
        due("behind -1", x.end(1), -1);
        due("-6: the TAPE is empty", x.row(3), -6);
    }

    private static void lotsEdges() {
        says("14: CHANCE and a SEED (0 .. 1,000,000): 0. -1");
        MendedWebs x = web("", "pay 1");
        int[][] right = {{0, 0}, {1000, 0}, {0, 1000000}, {1000, 1000000}};
        for (int[] r : right) due("lots " + r[0] + ", " + r[1], x.lots(r[0], r[1]), 0);
        int[][] wrong = {{-1, 0}, {1001, 0}, {0, -1}, {0, 1000001}, {-1, -1}, {1001, 1000001}};
        for (int[] w : wrong) due("lots " + w[0] + ", " + w[1], x.lots(w[0], w[1]), -1);
        for (int f : FAR) due("chance " + f, x.lots(f, 0), -1);
        for (int f : FAR) due("seed " + f, x.lots(0, f), -1);
        due("status", x.status(), -1);
        x.step(1);
        due("chance stays 1000", x.all(5), 1);
        says("14: a SEED with which DRAWS begin anew");
        int[] first = new int[24];
        for (int time = 0; time < 2; time++) {
            for (int c = 0; c < 24; c++) x.flip(c, 0);
            x.lots(1000, 321);
            x.step(20);
            for (int c = 0; c < 24; c++) {
                if (time == 0) first[c] = x.cell(c, 0);
                else due("cell " + c + " alike", x.cell(c, 0), first[c]);
            }
        }
    }

    private static void watchEdges() {
        says("15: WATCH (0 .. 3): what it was. -1");
        MendedWebs x = new MendedWebs();
        int[] order = {3, 0, 2, 1, 1, 3, 2, 0};
        int was = 0;
        for (int how : order) {
            due("watch " + how, x.watch(how), was);
            due("status", x.status(), 0);
            was = how;
        }
        x.watch(2);
        due("-1", x.watch(-1), -1);
        due("4", x.watch(4), -1);
        due("status", x.status(), -1);
        for (int f : FAR) due("watch " + f, x.watch(f), -1);
        due("it stays", x.watch(2), 2);
    }

    private static void routineEdges() {
        says("16: -2 a LINE that is not there; -3 from above to");
        MendedWebs x = web("", "pay 1" + times(";pay 1", 11));
        due("0, 0", x.routine(0, 0), 0);
        due("0, 11", x.routine(0, 11), 0);
        due("11, 11", x.routine(11, 11), 0);
        int[][] wrong = {{-1, 0}, {0, -1}, {12, 12}, {0, 12}, {12, 0}, {-1, -1}, {5, 12}};
        for (int[] w : wrong) {
            due(w[0] + ", " + w[1], x.routine(w[0], w[1]), -2);
            due("status", x.status(), -2);
        }
        for (int f : FAR) {
            due(f + ", 1", x.routine(f, 1), -2);
            due("1, " + f, x.routine(1, f), -2);
        }
        due("11, 10", x.routine(11, 10), -3);
        due("1, 0", x.routine(1, 0), -3);
        due("status", x.status(), -3);
        MendedWebs none = new MendedWebs();
        due("no lines", none.routine(0, 0), -2);
    }

    private static void stepEdges() {
        says("17: STEPS go by (1 .. 64): how many were done in all. -1; -3 there are no LINES");
        MendedWebs x = new MendedWebs();
        due("no lines", x.step(1), -3);
        due("no lines, 64", x.step(64), -3);
        due("status", x.status(), -3);
        Checks.lines(x, "pay 1");
        due("1", x.step(1), 1);
        due("64", x.step(64), 65);
        int[] wrong = {0, 65, -1, 128};
        for (int w : wrong) {
            due("step " + w, x.step(w), -1);
            due("status", x.status(), -1);
        }
        for (int f : FAR) due("step " + f, x.step(f), -1);
        due("none were done", x.all(0), 65);
        due("1 more", x.step(1), 66);
        due("status", x.status(), 0);
    }

    private static void seenEdges() {
        says("18: NONE (not so, too)");
        MendedWebs x = web("keep 1 = 2;keep 1 = 1", "pay 1");
        for (int l = 0; l < 2; l++) for (int w = 0; w < 3; w++) due("ahead of a step: " + l + ", " + w, x.seen(l, w), -1);
        x.watch(3);
        x.step(1);
        for (int w = 0; w < 3; w++) due("broken: what " + w, x.seen(0, w), 0);
        for (int w = 0; w < 3; w++) due("whole: what " + w, x.seen(1, w), -1);
        due("law 2", x.seen(2, 0), -1);
        due("law -1", x.seen(-1, 0), -1);
        due("what 3", x.seen(0, 3), -1);
        due("what -1", x.seen(0, -1), -1);
        for (int f : FAR) {
            due("law " + f, x.seen(f, 0), -1);
            due("what " + f, x.seen(0, f), -1);
        }
    }

    private static void allEdges() {
        says("19: NONE for others");
        MendedWebs x = web("", "pay 1");
        for (int w = 0; w <= 8; w++) due("what " + w, x.all(w), 0);
        due("what 9", x.all(9), -1);
        due("what -1", x.all(-1), -1);
        for (int f : FAR) due("what " + f, x.all(f), -1);
        says("19: 0 STEPS, 1 PASSED, 2 AMISS, 3 PAID, 4 HELD BACK, 5 flips by LOTS, 6 COST, 7 the LINE that is next, 8 WRITES kept");
        MendedWebs y = web("", "pay 1;pay 1;pay 1;let name 0 be 10;let name 0 be 10;pay name 2;pay name 2;pay name 2;pay name 2;pay 1 if 1 = 2");
        Checks.mark(y, 5);
        Checks.laws(y, "list 0");
        y.watch(2);
        y.step(18);
        y.flip(4, 1);
        int[] want = {18, 1, 4, 6, 7, 0, 18, 8, 2};
        for (int w = 0; w <= 8; w++) due("what " + w, y.all(w), want[w]);
        y.lots(1000, 1);
        y.step(2);
        due("flips by lots alone", y.all(5), 2);
        due("writes", y.all(8), 4);
    }

    private static void outEdges() {
        says("20: The i-th that was PAID; NOTHING (-1000) without");
        MendedWebs x = web("", "pay 0 - 1;pay 2 if 1 = 2;pay 3");
        due("none", x.out(0), WITHOUT);
        x.step(3);
        due("first", x.out(0), -1);
        due("second", x.out(1), 3);
        due("third", x.out(2), WITHOUT);
        due("-1", x.out(-1), WITHOUT);
        for (int f : FAR) due("out " + f, x.out(f), WITHOUT);
    }

    private static void calls512() {
        says("What it is: An object is used for at most 512 calls after it has been made");
        MendedWebs x = new MendedWebs();
        for (int i = 1; i < 512; i++) x.flip(0, i % 6);
        due("the 512th", x.flip(0, 5), 511 % 6);
        MendedWebs y = new MendedWebs();
        y.feed(0x70617920, 0x31202020, 0x20202020, 0x20202020, 0x20202020);
        y.lines();
        for (int i = 3; i < 512; i++) y.step(64);
        due("the 512th", y.step(64), 510 * 64);
    }

    public static void main(String[] args) {
        nextLine();
        passed();
        amissInTest();
        amissInPlace();
        amissInValue();
        nothingIsFine();
        numbersAmiss();
        anySumIsPaid();
        nodeAndValueAhead();
        markedByReading();
        markedByAll();
        markedByEach();
        notMarked();
        amissKeepsMarks();
        heldBack();
        outOf100();
        chances();
        flipsOfEach();
        draws();
        lotsBehindAll();
        flipToTheSame();
        writesOf200();
        latestLineOf();
        stepsOf200();
        watches();
        watchOfLine();
        watchOfOne();
        watchWithoutLaws();
        routines();
        seenOnce();
        seenTwice();
        brokenSince();
        late();
        cellEdges();
        flipEdges();
        rowEdges();
        rowPassedBy();
        rowIsFlips();
        lotsEdges();
        watchEdges();
        routineEdges();
        stepEdges();
        seenEdges();
        allEdges();
        outEdges();
        calls512();
        Checks.close();
    }
}
