/** Terms IV, promises 21 to 27: each sentence that names an edge has a test of its own. */
public final class EdgesOfMendsTest {
    private static final int NOTHING = -1;
    private static final int WITHOUT = -1000;
    private static final int[] FAR = {Integer.MIN_VALUE, Integer.MIN_VALUE + 1, -1001, -1000, -2, 1 << 24, Integer.MAX_VALUE};

    private EdgesOfMendsTest() { }

    private static void says(String words) {
        Checks.says(words);
    }

    private static void due(String what, long got, long want) {
        Checks.due(what, got, want);
    }

    private static MendedWebs web(String laws, String lines) {
        return Checks.web(laws, lines);
    }

    private static boolean isNumber(int cell) {
        return cell >= 3 && (cell < 6 || cell % 3 == 2);
    }

    /** All mends are these rows of cell, value, cell, value .. */
    private static void mendsAre(String what, MendedWebs x, int m, int[]... rows) {
        due(what + ": how many", x.least(m, 1), rows.length);
        for (int i = 0; i < rows.length; i++) {
            for (int k = 0; 2 * k < rows[i].length; k++) {
                due(what + ": cell " + k + " of " + i, x.mends(m, i, k, 0), rows[i][2 * k]);
                due(what + ": value " + k + " of " + i, x.mends(m, i, k, 1), rows[i][2 * k + 1]);
            }
            due(what + ": no more of " + i, x.mends(m, i, rows[i].length / 2, 0), WITHOUT);
        }
        due(what + ": no more", x.mends(m, rows.length, 0, 0), WITHOUT);
    }

    // ---- Terms IV

    private static void atMostM() {
        says("IV: A MEND changes at most m CELLS (m 1 .. 3)");
        MendedWebs x = web("keep name 0 = 1 and name 1 = 1 and name 2 = 1", "");
        due("three by one", x.least(1, 0), -1);
        due("three by two", x.least(2, 0), -1);
        due("three by three", x.least(3, 0), 6);
        x.flip(3, 1);
        due("two by one", x.least(1, 0), -1);
        due("two by two", x.least(2, 0), 4);
        due("two by three", x.least(3, 0), 4);
        x.flip(4, 1);
        for (int m = 1; m <= 3; m++) due("one by " + m, x.least(m, 0), 2);
        MendedWebs four = web("keep name 0 = 1 and name 1 = 1 and name 2 = 1 and total 0 = 1", "");
        four.flip(0, 0);
        due("four by three", four.least(3, 0), -1);
        four.flip(8, 1);
        due("three again", four.least(3, 0), 6);
        int[] wrong = {0, 4, -1, -2, 5, Integer.MIN_VALUE, Integer.MAX_VALUE};
        for (int m : wrong) {
            for (int w = 0; w < 3; w++) due("least by " + m, x.least(m, w), -1);
            due("mends by " + m, x.mends(m, 0, 0, 0), WITHOUT);
            due("mend by " + m, x.mend(m, 0), -1);
            due("mend by " + m + ", the first", x.mend(m, -1), -1);
        }
    }

    private static void eachToAnother() {
        says("IV: each to another one than it is (a NODE 0 .. 5 or NOTHING; a NUMBER 0 .. 9)");
        for (int v = 0; v <= 9; v++) {
            MendedWebs x = web("keep name 0 < 10 and name 1 = 9", "");
            x.flip(3, v);
            mendsAre("name 0 need not change", x, 3, new int[] {4, 9});
        }
        MendedWebs x = web("keep not name 0 = 4", "");
        x.flip(3, 4);
        int[][] numbers = new int[9][];
        for (int i = 0; i < 9; i++) numbers[i] = new int[] {3, i < 4 ? i : i + 1};
        mendsAre("any number but 4", x, 1, numbers);
        MendedWebs y = web("keep length 0 = 1", "");
        y.price(2, 9);
        int[][] nodes = new int[6][];
        for (int i = 0; i < 6; i++) nodes[i] = new int[] {0, i};
        mendsAre("any node", y, 1, nodes);
        Checks.laws(y, "keep length 0 = 2");
        y.flip(9, 4);
        mendsAre("only node 1 leads to another", y, 1, new int[] {0, 1});
        Checks.laws(y, "keep length 0 = 0");
        y.flip(0, 3);
        mendsAre("nothing", y, 3, new int[] {0, NOTHING});
    }

    private static void soThatAllHold() {
        says("IV: so that all LAWS HOLD");
        MendedWebs x = web("keep name 0 > 3;keep name 0 < 5;list 0", "");
        mendsAre("of two laws on one cell", x, 1, new int[] {3, 4});
        Checks.laws(x, "keep name 0 > 3;keep 1 = 2");
        due("one that no cell mends", x.least(3, 0), -1);
        Checks.laws(x, "keep name 0 = 1;keep name 0 = 2");
        due("two that no value mends", x.least(3, 0), -1);
        Checks.laws(x, "keep name 0 = 1;keep name 1 = 1");
        due("two of two cells, by one", x.least(1, 0), -1);
        mendsAre("by two", x, 2, new int[] {3, 1, 4, 1});
        Checks.laws(x, "keep name 0 = 1;keep name 1 = 1;keep name 2 = 1");
        due("three of three cells, by two", x.least(2, 0), -1);
        mendsAre("by three", x, 3, new int[] {3, 1, 4, 1, 5, 1});
        Checks.laws(x, "keep name 0 = 1;keep name 1 = 0");
        mendsAre("one that holds stays so", x, 3, new int[] {3, 1});
        MendedWebs twelve = web(Checks.times("keep not name 0 = name 1;", 10) + "keep name 0 > 3;keep name 0 + name 1 < 5", "");
        mendsAre("twelve", twelve, 3, new int[] {3, 4});
        Checks.laws(twelve, Checks.times("keep 1 = 1;", 11) + "keep 1 = 2");
        due("eleven of twelve", twelve.least(3, 0), -1);
        Checks.laws(twelve, "keep name 0 = 5");
        mendsAre("one behind twelve", twelve, 3, new int[] {3, 5});
        MendedWebs y = web("list 0;twin 0;rise 0;keep length 0 > 1;apart 0 1", "");
        y.flip(0, 0);
        y.flip(1, 1);
        mendsAre("three at once", y, 2, new int[] {6, 2, 13, 0}, new int[] {6, 3, 16, 0}, new int[] {6, 4, 19, 0}, new int[] {6, 5, 22, 0});
    }

    /** The price of a change of a cell to a value, as the only mend by one cell. */
    private static int only(MendedWebs x, int cell, int value) {
        for (int i = 0; i < 501; i++) {
            if (x.mends(1, i, 0, 0) == cell && x.mends(1, i, 0, 1) == value) return x.least(1, 0);
        }
        return -99;
    }

    /** A web that a change of a cell of this kind alone mends. */
    private static MendedWebs ofKind(int kind) {
        MendedWebs x = new MendedWebs();
        if (kind == 0) Checks.laws(x, "keep length 0 = 1");
        if (kind == 1) Checks.laws(x, "keep name 0 = 1");
        if (kind == 2) Checks.laws(x, "list 0;keep length 0 = 1");
        if (kind == 3) Checks.laws(x, "twin 0;keep length 0 = 1");
        if (kind == 4) Checks.laws(x, "keep total 0 = 1");
        int[] cells = {0, 3, 6, 7, 8};
        if (kind >= 2) x.flip(0, 0);
        if (kind == 2) for (int n = 0; n < 6; n++) x.flip(6 + 3 * n, n);
        if (kind == 3) for (int n = 0; n < 6; n++) x.flip(7 + 3 * n, 0);
        return x;
    }

    private static final int[] CELL = {0, 3, 6, 7, 8};
    private static final int[] BECOMES = {0, 1, NOTHING, NOTHING, 1};

    private static void prices() {
        says("IV: PRICE of a change: of a HEAD, a NAME, NEXT, BACK, KEY as told (1 .. 9; 5, 2, 3, 2, 4 at first)");
        int[] first = {5, 2, 3, 2, 4};
        for (int kind = 0; kind < 5; kind++) {
            MendedWebs x = ofKind(kind);
            due("kind " + kind + " at first", only(x, CELL[kind], BECOMES[kind]), first[kind]);
            int was = first[kind];
            for (int price = 1; price <= 9; price++) {
                due("it was", x.price(kind, price), was);
                due("kind " + kind + " for " + price, only(x, CELL[kind], BECOMES[kind]), price);
                was = price;
            }
            for (int other = 0; other < 5; other++) if (other != kind) x.price(other, 1);
            due("others are no matter", only(x, CELL[kind], BECOMES[kind]), 9);
        }
        MendedWebs y = web("keep name 0 = 1 and name 1 = 1 and name 2 = 1", "");
        y.price(1, 9);
        due("three of 9 together", y.least(3, 0), 27);
    }

    private static void lessForLines() {
        says("IV: 1 less, if there is a WRITE kept of it by a LINE in the latest 8 STEPS");
        String[] lines = {"let head 0 be nothing", "let name 0 be 0", "let next(node 0) be node 0", "let back(node 0) be node 0", "let key(node 0) be 0"};
        for (int kind = 0; kind < 5; kind++) {
            MendedWebs x = ofKind(kind);
            int price = only(x, CELL[kind], BECOMES[kind]);
            Checks.lines(x, lines[kind] + Checks.times(";pay 1", 11));
            due("kind " + kind + " ahead", x.least(1, 0), price);
            for (int step = 1; step <= 8; step++) {
                x.step(1);
                due("kind " + kind + " behind " + step + " steps", only(x, CELL[kind], BECOMES[kind]), price - 1);
            }
            x.step(1);
            due("kind " + kind + " behind 9 steps", only(x, CELL[kind], BECOMES[kind]), price);
        }
        MendedWebs two = web("keep name 0 = 5", "let name 0 be 0");
        two.step(8);
        due("not twice 1 less", two.least(1, 0), 1);
        two.price(1, 5);
        due("1 less of 5", two.least(1, 0), 4);
    }

    private static void notLessForOthers() {
        says("IV: 1 less, if there is a WRITE by a LINE: not by a flip, a row, lots, a mend");
        MendedWebs x = web("keep name 0 = 5", "pay 1");
        x.flip(3, 1);
        due("a flip", x.least(1, 0), 2);
        Checks.row(x, 3, 2);
        due("a row", x.least(1, 0), 2);
        int seed = 0;
        while (draw(draw(seed)) % 24 != 3 || draw(draw(draw(seed))) % 10 != 7) seed++;
        x.lots(1000, seed);
        x.step(1);
        due("lots wrote it", x.cell(3, 0), 7);
        due("lots", x.least(1, 0), 2);
        x.mend(1, 0);
        Checks.laws(x, "keep name 0 = 6");
        due("a mend", x.least(1, 0), 2);
        Checks.lines(x, "let name 1 be 0");
        x.step(1);
        due("a line's of another cell", x.least(1, 0), 2);
        Checks.lines(x, "let name 0 be 10;let name 0 be 1 if 1 = 2");
        x.step(2);
        due("a line that was amiss, passed", x.least(1, 0), 2);
        says("IV: 1 less, if there is a WRITE kept of it");
        MendedWebs y = web("keep name 0 = 5", "let name 0 be 0");
        y.step(1);
        for (int i = 0; i < 199; i++) y.flip(23, 0);
        due("the 200th", y.least(1, 0), 1);
        y.flip(23, 0);
        due("kept no more", y.least(1, 0), 2);
        says("IV: 1 less, if there is a WRITE kept of it: not of one that AGAIN took back");
        MendedWebs z = web("keep name 0 = 5", "let name 0 be 0;pay 1");
        z.step(2);
        due("kept", z.least(1, 0), 1);
        z.again(0);
        due("taken back", z.least(1, 0), 2);
    }

    private static int draw(int s) {
        return (int) ((s * 1103L + 12345) % 1000003);
    }

    private static void lessForCopy() {
        says("IV: 1 less, if it becomes what the COPY (of all CELLS, if one was kept) has");
        for (int kind = 0; kind < 5; kind++) {
            MendedWebs x = ofKind(kind);
            int price = x.least(1, 0);
            int cell = CELL[kind];
            int is = x.cell(cell, 0);
            due("kind " + kind + " without a copy", only(x, cell, BECOMES[kind]), price);
            x.flip(cell, BECOMES[kind]);
            due("copy", x.copy(), 0);
            x.flip(cell, is);
            due("kind " + kind + " with one", x.least(1, 0), price - 1);
            mendsAre("that value alone", x, 1, new int[] {cell, BECOMES[kind]});
            x.copy();
            due("kind " + kind + " with another", x.least(1, 0), price);
        }
        MendedWebs two = web("keep name 0 = 1 and name 1 = 1 or length 0 = 1", "");
        two.price(0, 3);
        two.flip(3, 1);
        two.flip(4, 1);
        two.copy();
        two.flip(3, 0);
        two.flip(4, 0);
        due("two of the copy's are cheaper than a head", two.least(2, 0), 2);
        mendsAre("two of the copy's", two, 2, new int[] {3, 1, 4, 1});
        MendedWebs y = web("keep name 0 > 0", "");
        due("0 is of no copy", y.least(1, 1), 9);
        y.copy();
        due("what it is, is no change", y.least(1, 1), 9);
        due("nor less", y.least(1, 0), 2);
        Checks.laws(y, "keep name 0 = 0");
        y.flip(3, 1);
        due("the copy has 0", y.least(1, 0), 1);
    }

    private static void oneAtLeast() {
        says("IV: 1 less .. 1 less .. 1 at least");
        MendedWebs x = web("keep name 0 = 5", "let name 0 be 5;let name 0 be 0");
        x.step(1);
        x.copy();
        x.step(1);
        int[] due = {1, 1, 1, 2, 3, 4, 5, 6, 7};
        for (int price = 1; price <= 9; price++) {
            x.price(1, price);
            due("both of " + price, x.least(1, 0), due[price - 1]);
        }
        MendedWebs y = web("keep name 0 = 5", "let name 0 be 0");
        y.step(1);
        y.price(1, 1);
        due("a line's of 1", y.least(1, 0), 1);
        MendedWebs z = web("keep name 0 = 5", "");
        z.flip(3, 5);
        z.copy();
        z.flip(3, 0);
        z.price(1, 1);
        due("the copy's of 1", z.least(1, 0), 1);
        z.price(1, 2);
        due("the copy's of 2", z.least(1, 0), 1);
    }

    private static void fewestCells() {
        says("IV: LEAST: the least PRICES together, of alike ones the fewest CELLS");
        MendedWebs x = web("keep name 0 = 1 and name 1 = 1 or length 0 = 1", "");
        x.price(0, 4);
        due("alike", x.least(2, 0), 4);
        due("one cell", x.mends(2, 0, 1, 0), WITHOUT);
        due("a head", x.mends(2, 0, 0, 0), 0);
        due("six of it", x.least(2, 1), 6);
        x.price(0, 5);
        due("two are cheaper", x.least(2, 0), 4);
        mendsAre("by two", x, 2, new int[] {3, 1, 4, 1});
        due("by one alone", x.least(1, 0), 5);
        x.price(0, 3);
        due("one is cheaper", x.least(3, 0), 3);
        Checks.laws(x, "keep name 0 = 1 and name 1 = 1 and name 2 = 1 or length 0 = 1 and total 0 = 9");
        x.price(0, 5);
        x.price(4, 1);
        due("three, two alike", x.least(3, 0), 6);
        due("the fewest: two", x.mends(3, 0, 1, 0), 8);
        due("no third", x.mends(3, 0, 2, 0), WITHOUT);
        due("six of them", x.least(3, 1), 6);
        x.price(4, 2);
        due("three are cheaper", x.least(3, 0), 6);
        mendsAre("by three", x, 3, new int[] {3, 1, 4, 1, 5, 1});
    }

    private static void inOrder() {
        says("IV: all those MENDS are in order as rows (CELL, what it becomes; lower CELLS first, NOTHING ahead of NODES)");
        MendedWebs x = web("list 0", "");
        x.flip(0, 0);
        x.flip(6, 0);
        x.price(0, 3);
        // Head 0 to nothing or to a node that leads to nothing, next of node 0 to another.
        mendsAre("by one", x, 1, new int[] {0, NOTHING}, new int[] {0, 1}, new int[] {0, 2}, new int[] {0, 3}, new int[] {0, 4},
            new int[] {0, 5}, new int[] {6, NOTHING}, new int[] {6, 1}, new int[] {6, 2}, new int[] {6, 3}, new int[] {6, 4}, new int[] {6, 5});
        MendedWebs y = web("keep name 0 + name 2 + name 1 = 17", "");
        mendsAre("by two", y, 2, new int[] {3, 8, 4, 9}, new int[] {3, 8, 5, 9}, new int[] {3, 9, 4, 8}, new int[] {3, 9, 5, 8},
            new int[] {4, 8, 5, 9}, new int[] {4, 9, 5, 8});
        MendedWebs z = web("keep name 2 + name 1 + name 0 = 25", "");
        mendsAre("by three", z, 3, new int[] {3, 7, 4, 9, 5, 9}, new int[] {3, 8, 4, 8, 5, 9}, new int[] {3, 8, 4, 9, 5, 8},
            new int[] {3, 9, 4, 7, 5, 9}, new int[] {3, 9, 4, 8, 5, 8}, new int[] {3, 9, 4, 9, 5, 7});
        MendedWebs v = web("keep name 1 + name 2 > 8;keep length 0 + length 1 = 1", "");
        int[][] rows = new int[24][];
        for (int i = 0; i < 24; i++) rows[i] = new int[] {i / 12, i % 12 / 2, 4 + i % 2, 9};
        mendsAre("two laws, the one of higher cells first", v, 2, rows);
        Checks.laws(v, "keep name 2 = 4;keep length 2 = 1;keep total 0 = 1");
        v.flip(0, 0);
        int[][] three = new int[6][];
        for (int i = 0; i < 6; i++) three[i] = new int[] {2, i, 5, 4, 8, 1};
        mendsAre("three laws", v, 3, three);
        Checks.laws(v, "keep total 0 = 1;keep name 2 = 4;keep name 0 = 3");
        mendsAre("three laws, the last one of the lowest cell", v, 3, new int[] {3, 3, 5, 4, 8, 1});
        Checks.laws(v, "keep total 0 = 1;keep name 2 = 4");
        mendsAre("two laws behind three", v, 3, new int[] {5, 4, 8, 1});
        MendedWebs w = web("keep total 0 = 9", "");
        w.flip(0, 5);
        w.price(0, 2);
        w.price(4, 2);
        mendsAre("lower cells first", w, 2, new int[] {23, 9});
    }

    /** So many mends of three names, the last of them 7, 2, a number more for each more; and name 1, name 2, a key to 9. */
    private static MendedWebs many(int below, String or) {
        MendedWebs x = web("keep name 0 > 0 and name 1 > 0 and name 2 > 0 and (name 0 < 7 or name 0 = 7 and (name 1 = 1 or name 1 = 2 and name 2 < "
            + below + "))" + or, "");
        x.price(4, 2);
        x.flip(0, 0);
        return x;
    }

    private static void howMany() {
        says("IV: are there more than 500, it is MANY, and the first 500 alone are looked at");
        int[] below = {5, 6, 7, 8};
        int[] found = {499, 500, 501, 501};
        for (int i = 0; i < below.length; i++) {
            MendedWebs x = many(below[i], "");
            due("how many, below " + below[i], x.least(3, 1), found[i]);
            due("prices", x.least(3, 0), 6);
            int last = Math.min(found[i], 500) - 1;
            int[] row = {3, 7, 4, 2, 5, Math.min(below[i] - 1, 5)};
            for (int k = 0; k < 3; k++) {
                due("the last one's cell " + k, x.mends(3, last, k, 0), row[2 * k]);
                due("the last one's value " + k, x.mends(3, last, k, 1), row[2 * k + 1]);
                due("none behind it", x.mends(3, last + 1, k, 0), WITHOUT);
            }
            due("none behind it is done", x.mend(3, last + 1), -3);
            due("status", x.status(), -3);
            due("nothing was done", x.all(8), 1);
            due("the last one is done", x.mend(3, last), 6);
            due("name 2", x.cell(5, 0), row[5]);
        }
    }

    private static void firstInOrder() {
        says("IV: the first 500 alone: in order, however they are found");
        MendedWebs x = web("keep name 2 > 0;keep name 1 > 0;keep length 0 + length 1 = 1", "");
        due("12 times 81 of them", x.least(3, 1), 501);
        int[] which = {0, 1, 9, 485, 486, 494, 495, 499};
        int[][] rows = {{0, 0, 4, 1, 5, 1}, {0, 0, 4, 1, 5, 2}, {0, 0, 4, 2, 5, 1}, {0, 5, 4, 9, 5, 9}, {1, 0, 4, 1, 5, 1}, {1, 0, 4, 1, 5, 9},
            {1, 0, 4, 2, 5, 1}, {1, 0, 4, 2, 5, 5}};
        for (int i = 0; i < which.length; i++) {
            for (int k = 0; k < 3; k++) {
                due("cell " + k + " of " + which[i], x.mends(3, which[i], k, 0), rows[i][2 * k]);
                due("value " + k + " of " + which[i], x.mends(3, which[i], k, 1), rows[i][2 * k + 1]);
            }
        }
        due("no 501st", x.mends(3, 500, 0, 0), WITHOUT);
    }

    private static void firstOnesAlone() {
        says("IV: the first 500 alone are looked at: so they alone DIFFER");
        String or = " or name 1 = 9 and name 2 = 9 and total 0 = 9";
        MendedWebs x = many(5, or);
        due("500", x.least(3, 1), 500);
        x.weighty(1 << 8);
        due("the 500th differs", x.least(3, 2), 1);
        due("it is to be asked", x.mend(3, -1), -3);
        due("it is the key's", x.mends(3, 499, 2, 0), 8);
        x = many(6, or);
        due("501", x.least(3, 1), 501);
        x.weighty(1 << 8);
        due("the 501st is not looked at", x.least(3, 2), 0);
        due("the first is done", x.mend(3, -1), 6);
        for (int c = 3; c < 6; c++) due("name " + (c - 3), x.cell(c, 0), 1);
    }

    private static void differ() {
        says("IV: They DIFFER, if a WEIGHTY CELL (told as bits) is not the same behind any two of these");
        MendedWebs x = web("keep name 0 + name 1 > 8", "");
        due("none is weighty", x.least(1, 2), 0);
        for (int c = 0; c < 24; c++) {
            x.weighty(1 << c);
            due("cell " + c + " alone", x.least(1, 2), c == 3 || c == 4 ? 1 : 0);
        }
        x.weighty((1 << 24) - 1);
        due("all", x.least(1, 2), 1);
        x.weighty((1 << 24) - 1 - (1 << 3) - (1 << 4));
        due("all others", x.least(1, 2), 0);
        Checks.laws(x, "keep name 0 > 8");
        x.weighty((1 << 24) - 1);
        due("one mend", x.least(1, 2), 0);
        Checks.laws(x, "keep 1 = 1");
        due("no cell to change", x.least(1, 2), 0);
        Checks.laws(x, "keep 1 = 2");
        due("no mend", x.least(1, 2), -1);
        says("IV: DIFFER: a WEIGHTY CELL that all change alike is the same");
        MendedWebs y = web("keep name 0 = 4 and name 1 + name 2 > 8", "");
        due("two mends", y.least(2, 1), 2);
        y.weighty(1 << 3);
        due("name 0 becomes 4 in both", y.least(2, 2), 0);
        y.weighty(1 << 5);
        due("name 2 in one", y.least(2, 2), 1);
        says("IV: DIFFER: any two: also two that are not the first");
        MendedWebs z = web("keep length 0 = 1 or length 1 = 1", "");
        z.weighty(2);
        due("head 1 is the same behind the first six", z.least(1, 1), 12);
        due("not behind the others", z.least(1, 2), 1);
        z.weighty(1);
        due("head 0", z.least(1, 2), 1);
        z.weighty(4);
        due("head 2", z.least(1, 2), 0);
        MendedWebs w = web("list 0", "");
        w.flip(0, 0);
        for (int n = 0; n < 6; n++) w.flip(6 + 3 * n, n);
        w.price(0, 3);
        w.weighty(1);
        mendsAre("head 0 or next of node 0", w, 1, new int[] {0, NOTHING}, new int[] {6, NOTHING});
        due("head 0 to NOTHING is another than none", w.least(1, 2), 1);
        w.weighty(1 << 9);
        due("next of node 1 is the same", w.least(1, 2), 0);
        MendedWebs v = web("keep name 2 = 9 and name 0 + name 1 = 1", "");
        mendsAre("name 0 or name 1", v, 2, new int[] {3, 1, 5, 9}, new int[] {4, 1, 5, 9});
        v.weighty(1 << 3 | 1 << 4 | 1 << 5);
        due("all three: name 0 is not the same", v.least(2, 2), 1);
        v.weighty(1 << 5 | 1 << 6);
        due("name 2 is", v.least(2, 2), 0);
        Checks.laws(v, "keep length 1 + length 2 = 1;keep name 0 = 1;keep name 1 = 1");
        due("three cells: head 1 or head 2", v.least(3, 1), 12);
        v.weighty(1);
        due("head 0 is the same", v.least(3, 2), 0);
        v.weighty(1 << 3 | 1 << 4);
        due("name 0, name 1 are", v.least(3, 2), 0);
        v.weighty(4);
        due("head 2 is not", v.least(3, 2), 1);
    }

    private static void differInEach() {
        says("IV: DIFFER: a WEIGHTY CELL (told as bits): each of the 24");
        int all = (1 << 24) - 1;
        for (int c = 0; c < 24; c++) {
            int node = (c - 6) / 3;
            int kind = c < 3 ? 0 : c < 6 ? 1 : 2 + c % 3;
            MendedWebs x = new MendedWebs();
            if (kind > 1) x.flip(0, node);
            if (kind == 2 || kind == 3) x.flip(c, node);
            // To NOTHING or to a node, as cheap as head 0: so back of that node is the same behind some.
            if (kind == 3) x.price(0, 2);
            String[] laws = {"keep length " + c + " = 1", "keep name " + (c - 3) + " > 1", "list 0", "twin 0", "keep total 0 > 1"};
            Checks.laws(x, laws[kind]);
            due("cell " + c + ": mends", x.least(1, 1) > 1 ? 1 : 0, 1);
            x.weighty(1 << c);
            due("cell " + c + " alone", x.least(1, 2), 1);
            x.weighty(all);
            due("cell " + c + " and all others", x.least(1, 2), 1);
            x.weighty(all - (1 << c) - (kind == 3 ? 1 : 0));
            due("all but cell " + c, x.least(1, 2), 0);
        }
    }

    // ---- Promises 21 to 27

    private static void priceEdges() {
        says("21: PRICE of a kind (0 HEAD, 1 NAME, 2 NEXT, 3 BACK, 4 KEY): what it was. -1");
        MendedWebs x = new MendedWebs();
        int[] first = {5, 2, 3, 2, 4};
        for (int kind = 0; kind < 5; kind++) {
            due("kind " + kind + " to 9", x.price(kind, 9), first[kind]);
            due("status", x.status(), 0);
            int[] wrong = {0, 10, -1};
            for (int p : wrong) {
                due("kind " + kind + " to " + p, x.price(kind, p), -1);
                due("status", x.status(), -1);
            }
            for (int f : FAR) due("kind " + kind + " to " + f, x.price(kind, f), -1);
            due("kind " + kind + " to 1", x.price(kind, 1), 9);
            due("kind " + kind + " to 1 again", x.price(kind, 1), 1);
        }
        due("kind 5", x.price(5, 1), -1);
        due("kind -1", x.price(-1, 1), -1);
        for (int f : FAR) due("kind " + f, x.price(f, 1), -1);
    }

    private static void copyEdges() {
        says("22: A COPY of all CELLS is kept: 0");
        int[] first = {5, 2, 3, 2, 4};
        for (int c = 0; c < 24; c++) {
            int kind = c < 3 ? 0 : c < 6 ? 1 : 2 + c % 3;
            int node = (c - 6) / 3;
            int kept = kind == 3 ? NOTHING : kind == 2 && node == 2 ? 5 : 2;
            MendedWebs x = new MendedWebs();
            x.flip(c, kept);
            due("copy", x.copy(), 0);
            x.flip(c, kind == 0 ? NOTHING : kind == 2 ? node : 1);
            if (kind > 1) x.flip(0, node);
            String[] laws = {"keep length " + c + " = 1", "keep name " + (c - 3) + " > 1", "list 0", "twin 0", "keep total 0 > 1"};
            Checks.laws(x, laws[kind]);
            due("cell " + c + " to what the copy has", x.least(1, 0), first[kind] - 1);
            mendsAre("cell " + c, x, 1, new int[] {c, kept});
        }
        MendedWebs y = new MendedWebs();
        due("of no change", y.copy(), 0);
        due("again", y.copy(), 0);
    }

    private static void weightyEdges() {
        says("23: WEIGHTY CELLS as bits: what they were. -1");
        MendedWebs x = new MendedWebs();
        due("0 at first", x.weighty((1 << 24) - 1), 0);
        due("all 24", x.weighty(1), (1 << 24) - 1);
        int[] wrong = {1 << 24, -1, (1 << 24) + 1, 1 << 25, Integer.MIN_VALUE, Integer.MAX_VALUE};
        for (int w : wrong) {
            due("weighty " + w, x.weighty(w), -1);
            due("status", x.status(), -1);
        }
        due("it stays", x.weighty(1 << 23), 1);
        due("the last cell's", x.weighty(0), 1 << 23);
        due("none", x.weighty(0), 0);
        due("status", x.status(), 0);
    }

    private static void leastEdges() {
        says("24: PRICES (what 0; 0 if all LAWS HOLD), how many MENDS (1; 501: MANY), 1 if they DIFFER, else 0 (2). NONE (none, too)");
        MendedWebs x = new MendedWebs();
        int[] whole = {0, 1, 0};
        for (int m = 1; m <= 3; m++) for (int w = 0; w < 3; w++) due("no laws: " + m + ", " + w, x.least(m, w), whole[w]);
        Checks.laws(x, "list 0;keep 1 = 1");
        for (int m = 1; m <= 3; m++) for (int w = 0; w < 3; w++) due("all hold: " + m + ", " + w, x.least(m, w), whole[w]);
        for (int w = 0; w < 3; w++) due("all hold, by none: " + w, x.least(0, w), -1);
        for (int w = 0; w < 3; w++) due("all hold, by 4: " + w, x.least(4, w), -1);
        due("what 3", x.least(1, 3), -1);
        due("what -1", x.least(1, -1), -1);
        for (int f : FAR) due("what " + f, x.least(1, f), -1);
        Checks.laws(x, "keep 1 = 2");
        for (int m = 1; m <= 3; m++) for (int w = 0; w < 3; w++) due("none: " + m + ", " + w, x.least(m, w), -1);
        x.step(0);
        x.least(9, 9);
        due("status is of no least", x.status(), -1);
        says("24: LEAST is of what is now");
        MendedWebs y = web("keep name 0 = 2;list 1", "let name 0 be 1;let name 0 be 2");
        due("ahead", y.least(1, 0), 2);
        y.image(0);
        y.step(1);
        due("a line wrote it", y.least(1, 0), 1);
        y.step(1);
        due("a line mended it", y.least(1, 0), 0);
        y.flip(3, 5);
        due("a flip broke it", y.least(1, 0), 1);
        Checks.row(y, 3, 2);
        due("a row mended it", y.least(1, 0), 0);
        y.again(0);
        due("again", y.least(1, 0), 0);
        y.again(1);
        due("again without the other one", y.least(1, 0), 2);
        y.price(1, 7);
        due("a price", y.least(1, 0), 7);
        y.flip(3, 2);
        y.copy();
        y.flip(3, 0);
        due("a copy", y.least(1, 0), 6);
        y.mend(1, 0);
        due("a mend", y.least(1, 0), 0);
        Checks.laws(y, "keep name 0 = 9");
        due("laws", y.least(1, 0), 7);
        y.back(0);
        due("back", y.least(1, 0), 2);
    }

    private static void mendsEdges() {
        says("25: Of the i-th MEND the k-th CELL (what 0), what it becomes (1). NOTHING (-1000) without");
        MendedWebs x = web("keep name 0 + name 1 = 17", "");
        mendsAre("two", x, 3, new int[] {3, 8, 4, 9}, new int[] {3, 9, 4, 8});
        int[][] wrong = {{0, 0, 0, 0}, {4, 0, 0, 0}, {1, 0, 0, 0}, {2, 2, 0, 0}, {2, -1, 0, 0}, {2, 0, 2, 0}, {2, 0, -1, 0}, {2, 0, 3, 0},
            {2, 0, 0, 2}, {2, 0, 0, -1}};
        for (int[] w : wrong) due("mends " + java.util.Arrays.toString(w), x.mends(w[0], w[1], w[2], w[3]), WITHOUT);
        for (int f : FAR) {
            due("m " + f, x.mends(f, 0, 0, 0), WITHOUT);
            due("i " + f, x.mends(2, f, 0, 0), WITHOUT);
            due("k " + f, x.mends(2, 0, f, 0), WITHOUT);
            due("what " + f, x.mends(2, 0, 0, f), WITHOUT);
        }
        Checks.laws(x, "keep 1 = 2");
        due("none", x.mends(3, 0, 0, 0), WITHOUT);
        Checks.laws(x, "keep 1 = 1");
        due("all hold: no cell", x.mends(3, 0, 0, 0), WITHOUT);
        x.flip(0, 0);
        x.flip(6, 0);
        Checks.laws(x, "list 0");
        due("NOTHING is -1, not -1000", x.mends(1, 0, 0, 1), NOTHING);
    }

    private static void mendEdges() {
        says("26: The i-th MEND is done, its CELLS are MARKED: its PRICES");
        MendedWebs x = web("keep name 0 + name 1 + name 2 = 26", "pay 1");
        x.step(3);
        due("the third", x.mend(3, 2), 6);
        due("status", x.status(), 0);
        int[] values = {9, 9, 8};
        for (int c = 0; c < 24; c++) {
            boolean in = c >= 3 && c < 6;
            due("cell " + c, x.cell(c, 0), in ? values[c - 3] : isNumber(c) ? 0 : NOTHING);
            due("mark " + c, x.cell(c, 1), in ? 1 : 0);
            due("mended " + c, x.cell(c, 2), in ? 1 : 0);
        }
        due("three writes", x.all(8), 3);
        says("26: -3 there is no such, all LAWS HOLD");
        for (int i = -1; i < 2; i++) {
            due("all hold: " + i, x.mend(3, i), -3);
            due("status", x.status(), -3);
        }
        Checks.laws(x, "keep name 0 = 1");
        due("-2", x.mend(1, -2), -3);
        due("1 of one", x.mend(1, 1), -3);
        for (int f : FAR) due("mend " + f, x.mend(1, f), -3);
        due("nothing was done", x.all(8), 3);
        due("0 of one", x.mend(1, 0), 2);
        due("mended twice", x.cell(3, 2), 2);
        Checks.laws(x, "keep 1 = 2");
        due("none", x.mend(3, 0), -3);
        due("none, the first", x.mend(3, -1), -3);
        Checks.laws(x, "keep name 0 = 8 and name 1 = 8");
        due("not by one", x.mend(1, 0), -3);
        due("by two", x.mend(2, 0), 4);
    }

    private static void mendOfNone() {
        says("26: i NONE: the first, if they do not DIFFER (-3: it is to be asked)");
        MendedWebs x = web("keep name 0 > 6", "");
        due("the first", x.mend(1, -1), 2);
        due("it is", x.cell(3, 0), 7);
        x.flip(3, 0);
        x.weighty(1 << 3);
        due("it is to be asked", x.mend(1, -1), -3);
        due("status", x.status(), -3);
        due("as it was", x.cell(3, 0), 0);
        due("by its number", x.mend(1, 2), 2);
        due("it is", x.cell(3, 0), 9);
        Checks.laws(x, "keep name 0 = 5");
        due("one alone does not differ", x.mend(1, -1), 2);
        due("status", x.status(), 0);
    }

    private static void mendIsAWrite() {
        says("26: a mend is a WRITE, of the STEP that is next");
        MendedWebs x = web("keep name 0 = 4", "let name 1 be name 0;pay 1");
        x.step(1);
        x.mend(1, 0);
        due("the mended cell is no more in its spread", x.spread(3, 0), 1 << 4);
        x.step(1);
        due("not since its step", x.spread(3, 1), 0);
        due("written", x.all(8), 2);
        due("taken back with step 1", x.again(1), 0);
        due("as it was", x.cell(3, 0), 0);
        due("not marked", x.cell(3, 1), 0);
        due("how often it was mended stays", x.cell(3, 2), 1);
        due("writes", x.all(8), 1);
    }

    private static void sureEdges() {
        says("27: A CELL is SURE again: 0. -1; -3 it is not MARKED");
        for (int c = 0; c < 24; c++) {
            MendedWebs x = new MendedWebs();
            due("cell " + c + " is not marked", x.sure(c), -3);
            due("status", x.status(), -3);
            Checks.mark(x, c);
            int is = x.cell(c, 0);
            int writes = x.all(8);
            for (int o = 0; o < 24; o++) if (o != c) due("nor cell " + o, x.sure(o), -3);
            due("cell " + c, x.sure(c), 0);
            due("status", x.status(), 0);
            due("not marked", x.cell(c, 1), 0);
            due("as it was", x.cell(c, 0), is);
            due("no write", x.all(8), writes);
            due("not twice", x.sure(c), -3);
        }
        MendedWebs x = new MendedWebs();
        due("24", x.sure(24), -1);
        due("-1", x.sure(-1), -1);
        due("status", x.status(), -1);
        for (int f : FAR) due("sure " + f, x.sure(f), -1);
    }

    public static void main(String[] args) {
        atMostM();
        eachToAnother();
        soThatAllHold();
        prices();
        lessForLines();
        notLessForOthers();
        lessForCopy();
        oneAtLeast();
        fewestCells();
        inOrder();
        howMany();
        firstInOrder();
        firstOnesAlone();
        differ();
        differInEach();
        priceEdges();
        copyEdges();
        weightyEdges();
        leastEdges();
        mendsEdges();
        mendEdges();
        mendOfNone();
        mendIsAWrite();
        sureEdges();
        Checks.close();
    }
}
