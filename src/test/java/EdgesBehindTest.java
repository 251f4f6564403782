/** Terms V, promises 28 to 33: each sentence that names an edge has a test of its own. */
public final class EdgesBehindTest {
    private static final int NOTHING = -1;
    private static final int WITHOUT = -1000;
    private static final int[] FAR = {Integer.MIN_VALUE, Integer.MIN_VALUE + 1, -1001, -1000, -2, 1 << 24, Integer.MAX_VALUE};
    private static final int WELL = 0;
    private static final int HELD = 1;
    private static final int LOST = 2;
    private static final int ENDED = 3;

    private EdgesBehindTest() { }

    private static void says(String words) {
        Checks.says(words);
    }

    private static void due(String what, long got, long want) {
        Checks.due(what, got, want);
    }

    private static MendedWebs web(String laws, String lines) {
        return Checks.web(laws, lines);
    }

    private static void flips(MendedWebs x, int n) {
        for (int i = 0; i < n; i++) x.flip(23, i % 10);
    }

    // ---- Terms V: spread

    private static void spreadAlone() {
        says("V: SPREAD of a CELL since a STEP: at first the CELL alone");
        MendedWebs x = web("", "pay name 0;let name 1 be 2;let name 0 be 10;let name 2 be name 0 if 1 = 2");
        x.step(4);
        for (int c = 0; c < 24; c++) due("cell " + c + " behind a pay, a write, amiss, passed", x.spread(c, 0), c == 4 ? 0 : 1 << c);
    }

    private static void spreadByLines() {
        says("V: a CELL written by a LINE is in it just if any that was read is");
        MendedWebs x = web("", "let name 1 be name 0;let name 2 be name 1;let name 1 be 5;let head 1 be node 2 if name 2 < 9;"
            + "let next(head 1) be nothing;let name 0 be name 0 + 1;let name 1 be length 1;let name 0 be 3");
        int[] spread = {1 << 3 | 1 << 4, 1 << 3 | 1 << 4 | 1 << 5, 1 << 3 | 1 << 5, 1 << 3 | 1 << 5 | 2, 1 << 3 | 1 << 5 | 2 | 1 << 12,
            1 << 3 | 1 << 5 | 2 | 1 << 12, 1 << 3 | 1 << 4 | 1 << 5 | 2 | 1 << 12, 1 << 4 | 1 << 5 | 2 | 1 << 12};
        for (int i = 0; i < spread.length; i++) {
            x.step(1);
            due("behind step " + i, x.spread(3, 0), spread[i]);
        }
    }

    private static void spreadByFlips() {
        says("V: one flipped or mended is not");
        MendedWebs x = web("", "let name 1 be name 0;pay 1");
        x.step(1);
        due("ahead", x.spread(3, 0), 1 << 3 | 1 << 4);
        x.flip(4, 0);
        due("flipped", x.spread(3, 0), 1 << 3);
        x.flip(3, 0);
        due("the cell itself", x.spread(3, 0), 0);
        MendedWebs y = web("", "let name 1 be name 0;pay 1");
        y.step(1);
        Checks.mark(y, 4);
        due("mended", y.spread(3, 0), 1 << 3);
        MendedWebs z = web("", "let name 1 be name 0;pay 1");
        int seed = 0;
        while (draw(draw(seed)) % 24 != 4) seed++;
        z.lots(1000, seed);
        z.step(1);
        due("flipped by lots behind its line", z.spread(3, 0), 1 << 3);
        MendedWebs r = web("", "let name 1 be name 0;pay 1");
        r.step(1);
        Checks.row(r, 4, 3);
        due("by a row", r.spread(3, 0), 1 << 3);
    }

    private static int draw(int s) {
        return (int) ((s * 1103L + 12345) % 1000003);
    }

    private static void spreadSince() {
        says("V: SPREAD since a STEP: by WRITES kept from that STEP on, in order");
        MendedWebs x = web("", "let name 1 be name 0;let name 2 be name 1;let head 0 be node 1 if name 2 < 9");
        x.step(3);
        int[] spread = {1 << 3 | 1 << 4 | 1 << 5 | 1, 1 << 3, 1 << 3};
        for (int s = 0; s < 3; s++) due("name 0 since " + s, x.spread(3, s), spread[s]);
        due("name 1 since 0: it was written", x.spread(4, 0), 0);
        due("name 1 since 1", x.spread(4, 1), 1 << 4 | 1 << 5 | 1);
        due("name 2 since 2", x.spread(5, 2), 1 << 5 | 1);
        due("head 0 since 2", x.spread(0, 2), 0);
    }

    private static void spreadNone() {
        says("28: NONE (a STEP that was not yet, WRITES from it on that are kept no more, too)");
        MendedWebs x = web("", "let name 0 be 1;pay 1");
        due("no step yet", x.spread(3, 0), -1);
        x.step(2);
        due("step 1", x.spread(5, 1), 1 << 5);
        due("step 2", x.spread(5, 2), -1);
        due("step -1", x.spread(5, -1), -1);
        due("cell 24", x.spread(24, 0), -1);
        due("cell -1", x.spread(-1, 0), -1);
        for (int f : FAR) {
            due("cell " + f, x.spread(f, 0), -1);
            due("step " + f, x.spread(5, f), -1);
        }
        x.flip(3, 1);
        due("a flip ahead of a step is no step", x.spread(3, 2), -1);
        flips(x, 198);
        due("200 writes since 0", x.spread(5, 0), 1 << 5);
        flips(x, 1);
        due("201 writes since 0", x.spread(5, 0), -1);
        due("200 since 1", x.spread(5, 1), 1 << 5);
        x.step(1);
        due("the flips ahead of step 2 are of it", x.spread(5, 2), -1);
        due("nor since 1", x.spread(5, 1), -1);
        x.step(1);
        due("since 3", x.spread(5, 3), 1 << 5);
    }

    private static void spreadLongAgo() {
        says("V: SPREAD since a STEP: by WRITES kept from that STEP on, however many STEPS ago");
        MendedWebs x = web("", "let name 1 be name 0 if name 2 = 0;pay 1");
        x.step(1);
        x.flip(5, 1);
        for (int i = 0; i < 8; i++) x.step(64);
        due("513 steps", x.all(0), 513);
        due("two writes", x.all(8), 2);
        due("since 0", x.spread(3, 0), 1 << 3 | 1 << 4);
        due("of the flipped one since 0", x.spread(5, 0), 1 << 4);
        due("since 1", x.spread(3, 1), 1 << 3);
        due("since 512", x.spread(3, 512), 1 << 3);
        due("since 513", x.spread(3, 513), -1);
    }

    // ---- Terms V: again

    private static void againTakesBack() {
        says("V: AGAIN without a STEP: all WRITES of it and of later ones are taken back, with whether CELLS were MARKED");
        MendedWebs x = web("", "let name 0 be 4;let name 1 be 4;pay 1");
        x.flip(5, 1);
        x.step(1);
        Checks.mark(x, 4);
        x.flip(4, 3);
        x.step(1);
        due("a line wrote it: not marked", x.cell(4, 1), 0);
        x.step(1);
        x.flip(5, 7);
        due("without step 2", x.again(2), 0);
        due("the pay's step had no write", x.cell(4, 0), 4);
        due("the flip ahead of step 3 is taken back", x.cell(5, 0), 1);
        due("without step 1", x.again(1), 0);
        due("the flip, the mend ahead of it, too", x.cell(4, 0), 0);
        due("not marked as ahead of the mend", x.cell(4, 1), 0);
        due("name 0 stays", x.cell(3, 0), 4);
        due("without step 0", x.again(0), 0);
        due("name 0", x.cell(3, 0), 0);
        due("the flip ahead of step 0", x.cell(5, 0), 0);
        due("no writes", x.all(8), 0);
        says("V: AGAIN .. taken back, with whether CELLS were MARKED");
        MendedWebs y = web("", "pay 1;let name 0 be 4;let name 1 be name 0");
        Checks.mark(y, 3);
        y.step(3);
        due("written, not marked", y.cell(3, 1), 0);
        due("what read it neither", y.cell(4, 1), 0);
        due("without step 1", y.again(1), 1);
        due("marked again", y.cell(3, 1), 1);
        due("as it was", y.cell(3, 0), 9);
        due("what reads it is marked", y.cell(4, 1), 1);
        due("and is 9", y.cell(4, 0), 9);
    }

    private static void againAllKept() {
        says("V: AGAIN: all WRITES of it and of later ones (they must all be kept)");
        MendedWebs x = web("", "let name 0 be 1;pay 1");
        x.step(2);
        flips(x, 199);
        due("200 since 0", x.again(0), 1);
        due("none are left", x.all(8), 0);
        MendedWebs y = web("", "let name 0 be 1;let name 1 be 1");
        y.step(2);
        flips(y, 199);
        due("201 since 0", y.again(0), -3);
        due("status", y.status(), -3);
        due("nothing is taken back", y.all(8), 200);
        due("200 since 1", y.again(1), 0);
        due("then they are not of step 0", y.again(0), -3);
        due("nor is its spread", y.spread(5, 0), -1);
        due("name 0 stays", y.cell(3, 0), 1);
    }

    private static void againBehindMany() {
        says("V: AGAIN where older WRITES are kept no more");
        MendedWebs x = web("", "let name 0 be 1;let name 1 be name 0 + 1;let name 2 be name 1 + 1");
        flips(x, 260);
        x.step(3);
        x.image(0);
        due("name 1's line", x.cell(4, 3), 1);
        due("without step 0", x.again(0), -3);
        due("without step 1", x.again(1), 1);
        due("name 0", x.cell(3, 0), 1);
        due("name 1", x.cell(4, 0), 0);
        due("name 2", x.cell(5, 0), 1);
        due("name 1 was written by none", x.cell(4, 3), -1);
        due("name 2's line", x.cell(5, 3), 2);
        due("writes", x.all(8), 199);
        flips(x, 31);
        x.back(0);
        due("back: name 0's line", x.cell(3, 3), 0);
        due("back: name 1's line", x.cell(4, 3), 1);
        due("back: name 2's line", x.cell(5, 3), 2);
        due("back: writes", x.all(8), 200);
        due("back: spread", x.spread(4, 2), 1 << 4 | 1 << 5);
        due("back: without step 2", x.again(2), 0);
        due("back: name 1", x.cell(4, 0), 2);
        due("back: name 2", x.cell(5, 0), 0);
    }

    private static void againLatest200() {
        says("V: AGAIN without a STEP (one of the latest 200)");
        MendedWebs x = web("", "pay 1");
        x.step(64);
        x.step(64);
        x.step(64);
        x.step(8);
        due("0 of 200", x.again(0), 199);
        x.step(1);
        due("0 of 201", x.again(0), -3);
        due("status", x.status(), -3);
        due("1 of 201", x.again(1), 199);
        due("200 of 201", x.again(200), 0);
        due("201 of 201", x.again(201), -1);
        due("status", x.status(), -1);
    }

    private static void againAnew() {
        says("V: the LINES of the STEPS behind it are done anew in order (no LOTS, no WATCH, no PAYS)");
        MendedWebs x = web("keep name 0 = 0", "let name 0 be name 0 + 2;let name 1 be name 0 + name 1;pay name 1;let name 2 be name 1 if name 0 > 2");
        x.watch(3);
        x.lots(0, 9);
        x.step(8);
        int[] before = new int[9];
        for (int w = 0; w <= 8; w++) before[w] = x.all(w);
        due("name 0", x.cell(3, 0), 4);
        due("name 1", x.cell(4, 0), 6);
        due("without step 0", x.again(0), 7);
        due("name 0 anew", x.cell(3, 0), 2);
        due("name 1 anew", x.cell(4, 0), 2);
        due("passed anew", x.cell(5, 0), 0);
        for (int w = 0; w < 8; w++) due("what " + w + " that is counted stays", x.all(w), before[w]);
        due("writes are those done anew", x.all(8), 3);
        due("out stays", x.out(0), 2);
        due("out stays, too", x.out(1), 6);
        due("no third", x.out(2), WITHOUT);
        due("broken stays", x.seen(0, 0), 0);
        due("seen stays", x.seen(0, 1), 0);
    }

    private static void againNoLots() {
        says("V: AGAIN: no LOTS");
        MendedWebs x = web("", "let name 0 be 1;pay 1");
        MendedWebs y = web("", "let name 0 be 1;pay 1");
        x.lots(1000, 8);
        y.lots(1000, 8);
        x.step(6);
        y.step(6);
        due("again", x.again(0), 5);
        due("flips are taken back, not done anew", x.all(8), 2);
        due("they are counted still", x.all(5), 6);
        for (int c = 0; c < 24; c++) {
            x.flip(c, 0);
            y.flip(c, 0);
        }
        x.step(4);
        y.step(4);
        for (int c = 0; c < 24; c++) due("draws go on as if it had not been: cell " + c, x.cell(c, 0), y.cell(c, 0));
    }

    private static void againOwnLots() {
        says("III, V: one's own LOTS have its own STEP");
        int seed = 0;
        while (draw(draw(seed)) % 24 != 4 || draw(draw(draw(seed))) % 10 != 7) seed++;
        MendedWebs x = web("", "let name 0 be 1;let name 2 be 2");
        x.lots(1000, seed);
        x.step(1);
        x.lots(0, 0);
        x.step(1);
        due("without step 1", x.again(1), 0);
        due("the flip of step 0 stays", x.cell(4, 0), 7);
        due("without step 0", x.again(0), 0);
        due("it is taken back", x.cell(4, 0), 0);
    }

    private static void againLeftOut() {
        says("V: that of the STEP itself is left out from now on (a STEP left out has no LINE, one ahead of the latest lines() neither)");
        MendedWebs x = web("", "let name 0 be 1;let name 1 be 1;let name 2 be 1;pay 1");
        x.step(4);
        due("without step 1", x.again(1), 2);
        due("without step 0, 1 is left out", x.again(0), 2);
        due("name 1", x.cell(4, 0), 0);
        due("without step 0 once more", x.again(0), 2);
        due("without step 2", x.again(2), 1);
        due("without step 3", x.again(3), 0);
        due("none is left", x.again(0), 0);
        for (int c = 3; c < 6; c++) due("cell " + c, x.cell(c, 0), 0);
        due("steps stay", x.all(0), 4);
        x.step(4);
        due("later ones have lines", x.again(2), 4);
        MendedWebs y = web("", "let name 0 be 1;let name 1 be 1");
        y.step(2);
        Checks.lines(y, "let name 2 be 1;pay 5");
        y.step(2);
        due("those ahead of lines() have none", y.again(0), 2);
        due("name 0 is taken back", y.cell(3, 0), 0);
        due("name 1 is not done anew", y.cell(4, 0), 0);
        due("name 2 is", y.cell(5, 0), 1);
        Checks.lines(y, "pay 1");
        due("none has one", y.again(1), 0);
        due("name 2 is taken back", y.cell(5, 0), 0);
    }

    private static void againPassed() {
        says("V: LINES done anew write where they were PASSED, and are PASSED where they wrote");
        MendedWebs x = web("", "let name 0 be 5;let name 1 be 1 if name 0 = 0;let name 2 be 2 if name 0 = 5");
        x.step(3);
        due("one passed", x.all(1), 1);
        due("without step 0", x.again(0), 2);
        due("written anew", x.cell(4, 0), 1);
        due("passed anew", x.cell(5, 0), 0);
        due("passed is counted as it was", x.all(1), 1);
        due("one write", x.all(8), 1);
        due("of step 1", x.spread(4, 1), 0);
        due("not of step 2", x.spread(4, 2), 1 << 4);
        due("its line", x.cell(4, 3), 1);
    }

    private static void againAmiss() {
        says("V: is one (no \"pay\") AMISS that was not, all stays as it is");
        MendedWebs x = web("", "let head 0 be node 1;let key(head 0) be 4;pay key(head 0);let name 0 be key(head 0)");
        x.step(4);
        due("refused", x.again(0), -3);
        due("status", x.status(), -3);
        due("head 0", x.cell(0, 0), 1);
        due("key of node 1", x.cell(11, 0), 4);
        due("name 0", x.cell(3, 0), 4);
        due("writes", x.all(8), 3);
        due("step 0 is not left out", x.again(1), 2);
        due("head 0 is anew", x.cell(0, 0), 1);
        due("name 0 is anew", x.cell(3, 0), 0);
        MendedWebs p = web("", "let head 0 be node 1;pay key(head 0);pay 1 if key(head 0) = 0");
        p.step(3);
        due("a pay may be amiss", p.again(0), 2);
        due("amiss is not counted", p.all(2), 0);
        MendedWebs a = web("", "let name 0 be 1;let key(head 0) be 4");
        a.step(2);
        due("one that was amiss may be so", a.again(0), 1);
        due("it is counted once", a.all(2), 1);
        MendedWebs b = web("", "let name 0 be 3;let name 0 be 9;let name 1 be name 0 + 5");
        b.step(3);
        due("amiss", b.all(2), 1);
        due("not amiss anew", b.again(1), 1);
        due("written", b.cell(4, 0), 8);
        due("then it may be amiss no more: it is not, without step 0", b.again(0), 1);
        due("5", b.cell(4, 0), 5);
        MendedWebs c = web("", "let name 1 be 9;let name 1 be 3;let name 1 be 9;let name 0 be name 1 + 5");
        c.step(4);
        due("amiss as a step", c.all(2), 1);
        due("not amiss anew", c.again(2), 1);
        due("written anew", c.cell(3, 0), 8);
        due("amiss that was not anew", c.again(1), -3);
        due("behind one that was done, a refused one leaves all: name 0", c.cell(3, 0), 8);
        due("name 1", c.cell(4, 0), 3);
        due("writes", c.all(8), 3);
        due("its steps", c.again(0), 2);
        MendedWebs last = web("", "let name 0 be 1;let name 1 be 10 - name 0");
        last.step(2);
        due("the last step would be amiss", last.again(0), -3);
        due("a later refusal ahead of it is none", last.again(1), 0);
    }

    private static void againEdges() {
        says("29: -1 a STEP that was not; -3 it is not one of the latest 200");
        MendedWebs x = web("", "pay 1");
        due("no step yet", x.again(0), -1);
        x.step(2);
        due("-1", x.again(-1), -1);
        due("2", x.again(2), -1);
        due("status", x.status(), -1);
        for (int f : FAR) due("again " + f, x.again(f), -1);
        due("1", x.again(1), 0);
        due("status", x.status(), 0);
        due("0", x.again(0), 0);
        says("29: how many STEPS behind it have a LINE: PASSED, AMISS, paid, held ones, too");
        MendedWebs y = web("", "let name 0 be 0;let name 1 be 1 if 1 = 2;let name 1 be 10;pay 1;let name 2 be 2");
        y.step(5);
        for (int s = 4; s >= 0; s--) due("without step " + s, y.again(s), 0);
        MendedWebs z = web("", "let name 0 be 0;let name 1 be 1 if 1 = 2;let name 1 be 10;pay 1;let name 2 be 2");
        z.step(5);
        for (int s = 0; s < 5; s++) due("in order, without step " + s, z.again(s), 4 - s);
    }

    private static void againWritesOfSteps() {
        says("29: WRITES from that STEP on are those done anew, of the STEPS that they were of");
        MendedWebs x = web("", "let name 0 be name 0 + 1");
        for (int i = 0; i < 8; i++) x.step(1);
        due("eight", x.cell(3, 0), 8);
        due("without step 2", x.again(2), 5);
        due("seven", x.cell(3, 0), 7);
        due("writes", x.all(8), 7);
        due("without step 5", x.again(5), 2);
        due("six", x.cell(3, 0), 6);
        due("without step 7", x.again(7), 0);
        due("five", x.cell(3, 0), 5);
        due("without step 0", x.again(0), 4);
        due("four", x.cell(3, 0), 4);
        due("writes", x.all(8), 4);
        due("price of a recent line's write", recentBehindAgain(), 1);
    }

    private static void againLongAgo() {
        says("29: WRITES .. are those done anew, of the STEPS that they were of: long ago, too");
        MendedWebs x = web("keep name 0 = 9", "let name 1 be 1;let name 0 be name 2;pay 1 if 1 = 2" + Checks.times(";pay 1", 9));
        x.step(12);
        x.step(1);
        Checks.lines(x, "pay 1;let name 2 be name 0;pay 1" + Checks.times(";pay 1", 9));
        x.step(24);
        due("without step 0: none of its lines are left", x.again(0), 24);
        due("writes: of steps 14, 26", x.all(8), 2);
        due("name 2 since 14", x.spread(3, 14), 1 << 3 | 1 << 5);
        due("name 2 since 15", x.spread(3, 15), 1 << 3 | 1 << 5);
        due("name 2 since 26", x.spread(3, 26), 1 << 3 | 1 << 5);
        due("name 2 since 27", x.spread(3, 27), 1 << 3);
        Checks.laws(x, "keep name 2 = 9");
        due("not of the latest 8 steps", x.least(1, 0), 2);
        due("without step 26", x.again(26), 10);
        due("one write", x.all(8), 1);
        due("without step 20", x.again(20), 15);
        due("one write still", x.all(8), 1);
        due("without step 14", x.again(14), 20);
        due("none", x.all(8), 0);
    }

    private static int recentBehindAgain() {
        MendedWebs x = web("keep name 0 = 9", "let name 1 be 1;let name 0 be 1;pay 1;pay 1;pay 1;pay 1;pay 1;pay 1;pay 1");
        x.step(9);
        x.again(0);
        int is = x.least(1, 0);
        x.step(1);
        due("of nine steps ago no more", x.least(1, 0), 2);
        return is;
    }

    // ---- Terms V: put in

    private static void putInAre(String what, MendedWebs x, int n, int... counts) {
        for (int w = 0; w < 4; w++) due(what + ": what " + w, x.putIn(n, w), counts[w]);
    }

    private static void putInEach() {
        says("V: PUT IN: each CELL, each value that it is not, one by one");
        MendedWebs x = web("", "pay 1");
        putInAre("no laws, nothing read", x, 1, 171, 0, 0, 0);
        Checks.laws(x, "keep 1 = 2");
        putInAre("a law that never holds", x, 24, 0, 0, 0, 171);
        for (int c = 0; c < 24; c++) {
            boolean number = c >= 3 && (c < 6 || c % 3 == 2);
            MendedWebs y = web("", c < 3 ? "let head " + c + " be nothing if length " + c + " > 0" : "pay 1");
            int node = (c - 6) / 3;
            if (c >= 6) y.flip(0, node);
            int kind = c < 3 ? 0 : c < 6 ? 1 : 2 + c % 3;
            String[] laws = {"keep length " + c + " = 0", "keep name " + (c - 3) + " = 0", "keep length 0 = 1 or length 0 = 0", "twin 0", "keep total 0 = 0"};
            Checks.laws(y, laws[kind]);
            int ended = y.putIn(1, ENDED);
            due("cell " + c + ": all", y.putIn(1, WELL) + ended, 171);
            if (kind == 0) due("cell " + c + " is written, all is well", ended, 0);
            if (kind == 1) due("cell " + c + ": 9 values", ended, 9);
            if (kind == 2) due("cell " + c + ": 5 of 6 values", ended, 5);
            if (kind == 3) due("cell " + c + ": 6 values, and those next", ended, 6 + 5);
            if (kind == 4) due("cell " + c + ": 9 values", ended, 9);
            due("cell " + c + " is a number", number ? 1 : 0, kind == 1 || kind == 4 ? 1 : 0);
        }
    }

    private static void putInSteps() {
        says("V: PUT IN: the LINES go on n STEPS on paper (1 .. 24)");
        MendedWebs x = web("keep name 1 < 2", "pay 1;pay 1;pay 1;pay 1;pay 1;pay 1;pay 1;pay 1;pay 1;pay 1;pay 1;let name 1 be name 1 + 1");
        due("11 steps: 2 .. 9 end", x.putIn(11, ENDED), 8);
        due("12 steps: 1 .. 9 end", x.putIn(12, ENDED), 9);
        due("23 steps: as many", x.putIn(23, ENDED), 9);
        due("24 steps: all end", x.putIn(24, ENDED), 171);
        int[] wrong = {0, 25, -1, 64};
        for (int n : wrong) for (int w = 0; w < 4; w++) due("n " + n, x.putIn(n, w), -1);
        for (int f : FAR) due("n " + f, x.putIn(f, 0), -1);
        due("what 4", x.putIn(1, 4), -1);
        due("what -1", x.putIn(1, -1), -1);
        for (int f : FAR) due("what " + f, x.putIn(1, f), -1);
        due("no lines", new MendedWebs().putIn(1, 0), -1);
        MendedWebs p = web("", "pay name 0");
        putInAre("24 paid", p, 24, 162, 0, 9, 0);
    }

    private static void putInFromNow() {
        says("V: PUT IN: from NOW");
        MendedWebs x = web("", "pay name 0;let name 0 be 5;pay name 1");
        putInAre("line 0", x, 1, 162, 0, 9, 0);
        x.step(1);
        putInAre("line 1", x, 1, 171, 0, 0, 0);
        putInAre("lines 1, 2", x, 2, 162, 0, 9, 0);
        putInAre("lines 1, 2, 0", x, 3, 162, 0, 9, 0);
        x.step(2);
        putInAre("line 0 again", x, 1, 162, 0, 9, 0);
        putInAre("all", x, 3, 153, 0, 18, 0);
        says("V: PUT IN: of what is now");
        MendedWebs y = web("keep name 0 < 5", "pay 1");
        due("5 .. 9 end", y.putIn(1, ENDED), 5);
        y.flip(3, 7);
        due("a flip: all but 0 .. 4", y.putIn(1, ENDED), 171 - 5);
        Checks.laws(y, "keep 1 = 1");
        due("laws", y.putIn(1, ENDED), 0);
        Checks.lines(y, "pay name 0");
        due("lines", y.putIn(1, LOST), 9);
        Checks.mark(y, 3);
        due("a mend: held with and without", y.putIn(1, LOST), 0);
        y.sure(3);
        due("sure", y.putIn(1, LOST), 9);
        y.image(0);
        Checks.lines(y, "let name 0 be 1;pay name 0");
        due("lines anew", y.putIn(2, LOST), 0);
        y.step(1);
        due("a step", y.putIn(1, LOST), 9);
        y.again(0);
        due("again", y.putIn(1, LOST), 9);
        Checks.row(y, 3, 4);
        due("a row", y.putIn(1, LOST), 9);
        y.back(0);
        due("back", y.putIn(2, LOST), 9);
    }

    private static void putInCame() {
        says("V: WELL, if all LAWS HOLD then and what was PAID is the same as without");
        MendedWebs x = web("keep name 0 = 0", "let name 0 be 0;pay name 1");
        putInAre("broken between, not then", x, 2, 171 - 9, 0, 9, 0);
        Checks.laws(x, "keep name 0 = 0;keep name 1 < 9");
        putInAre("ENDED, if they do not", x, 2, 171 - 9, 0, 8, 1);
        Checks.lines(x, "pay 1 if name 0 = 0");
        Checks.laws(x, "list 0");
        putInAre("one not paid", x, 1, 171 - 9, 0, 9, 0);
        Checks.lines(x, "pay 1 if name 0 = 1");
        putInAre("one paid more", x, 1, 171 - 1, 0, 1, 0);
        says("V: what was PAID is the same: one by one, in order");
        MendedWebs y = web("", "pay name 0;pay 1 - name 0");
        // With name 0 at 1 it is 1, 0: not 0, 1.
        putInAre("the same ones in another order", y, 2, 171 - 9, 0, 9, 0);
        Checks.lines(y, "pay name 0;pay 9 - name 0;pay 4");
        putInAre("as much together", y, 3, 171 - 9, 0, 9, 0);
        Checks.lines(y, "pay 1 if name 0 = 0;pay 1;pay 1 if name 0 = 3");
        putInAre("as many of them, by others", y, 3, 171 - 8, 0, 8, 0);
        says("V: if all LAWS HOLD then: not between");
        MendedWebs z = web("keep name 1 = 0", "let name 1 be name 0;let name 1 be 0;pay 1");
        putInAre("name 1 is as name 0 then", z, 1, 171 - 9, 0, 0, 9);
        putInAre("it was between", z, 2, 171, 0, 0, 0);
        putInAre("and so behind the third", z, 3, 171, 0, 0, 0);
        putInAre("and again behind the fourth", z, 4, 171 - 9, 0, 0, 9);
    }

    private static void putInHeld() {
        says("V: HELD, if more was HELD BACK than without, and they HOLD (HELD ahead of LOST)");
        MendedWebs x = web("", "let name 1 be name 2 if name 0 > 0;pay name 1");
        Checks.mark(x, 5);
        x.flip(5, 0);
        Checks.laws(x, "list 0");
        // Name 0 above 0 lets name 1 be marked: held, and not paid.
        putInAre("held ahead of lost", x, 2, 171 - 18, 9, 9, 0);
        Checks.laws(x, "keep name 0 < 4");
        putInAre("held and not holding has ended", x, 2, 171 - 18, 3, 9, 6);
        MendedWebs y = web("", "pay name 2;pay name 1;let name 2 be 1");
        Checks.mark(y, 5);
        y.flip(5, 0);
        putInAre("held as much as without", y, 2, 171 - 9, 0, 9, 0);
        putInAre("a fault stays marked", y, 1, 171, 0, 0, 0);
        MendedWebs z = web("", "pay 1 if not (name 0 > 0 and name 2 = 0);pay 2 if name 0 > 0 or name 2 = 9;pay name 1 + name 0");
        Checks.mark(z, 5);
        z.flip(5, 0);
        // The first two read name 2: without, the first is held; with name 0 above 0, the second; with name 2 at 9, both.
        putInAre("another is held, as many; more is held, but paid the same", z, 3, 171 - 18, 0, 18, 0);
        MendedWebs w = web("", "let name 2 be 4 if name 0 > 0;pay name 2");
        Checks.mark(w, 5);
        putInAre("less is held, more is paid: lost", w, 2, 171 - 9, 0, 9, 0);
    }

    private static void putInOnPaper() {
        says("V: PUT IN: on paper (no LOTS, no WATCH)");
        MendedWebs x = Picture.web();
        for (int w = 0; w < 4; w++) x.putIn(24, w);
        Picture.same("all is as without", Picture.of(x), Picture.of(Picture.web()));
        MendedWebs y = web("list 0", "pay 1");
        y.lots(1000, 4);
        y.watch(3);
        putInAre("no lots", y, 24, 171, 0, 0, 0);
        due("no cost", y.all(6), 0);
        due("no flips", y.all(5), 0);
    }

    // ---- Promises 31 to 33

    private static void imageEdges() {
        says("31: IMAGE k is kept: 0; -1");
        MendedWebs x = new MendedWebs();
        due("image 0", x.image(0), 0);
        due("image 1", x.image(1), 0);
        int[] wrong = {2, -1, 3, Integer.MIN_VALUE, Integer.MAX_VALUE};
        for (int k : wrong) {
            due("image " + k, x.image(k), -1);
            due("status", x.status(), -1);
        }
        due("image 0 anew", x.image(0), 0);
        due("status", x.status(), 0);
        says("32: BACK to IMAGE k: 0. -1; -2 it was not kept");
        MendedWebs y = new MendedWebs();
        for (int k = 0; k < 2; k++) {
            due("back " + k, y.back(k), -2);
            due("status", y.status(), -2);
        }
        for (int k : wrong) {
            due("back " + k, y.back(k), -1);
            due("status", y.status(), -1);
        }
        y.image(1);
        due("the other one", y.back(0), -2);
        due("that one", y.back(1), 0);
        due("status", y.status(), 0);
        due("twice", y.back(1), 0);
    }

    private static void change(MendedWebs x) {
        Checks.laws(x, "keep 1 = 2;list 1");
        Checks.lines(x, "let name 0 be 3;pay 7;let name 1 be 10");
        x.watch(1);
        x.lots(1000, 5);
        x.step(20);
        x.routine(0, 1);
        x.step(10);
        x.sure(3);
        x.copy();
        for (int kind = 0; kind < 5; kind++) x.price(kind, 9);
        x.weighty(1);
        for (int c = 0; c < 24; c++) x.flip(c, 1);
        Checks.laws(x, "keep name 0 = 2");
        x.mend(1, 0);
        x.again(25);
    }

    private static void imagesKeepAll() {
        says("V: IMAGES 0, 1 keep all but the TAPE and FAULT; BACK to one all is as it was then");
        for (int k = 0; k < 2; k++) {
            MendedWebs x = Picture.web();
            x.image(k);
            change(x);
            due("back " + k, x.back(k), 0);
            MendedWebs y = Picture.web();
            y.image(k);
            Picture.same("image " + k, Picture.of(x), Picture.of(y), "fault", "tape");
        }
        MendedWebs x = new MendedWebs();
        x.image(0);
        change(x);
        x.back(0);
        Picture.same("a new object's", Picture.of(x), Picture.of(imageOfNew()), "fault", "tape");
        says("V: IMAGES keep all but the TAPE and FAULT");
        MendedWebs y = new MendedWebs();
        y.feed(1, 2, 3, 4, 5);
        y.image(0);
        Checks.laws(y, "list 9");
        y.feed(1, 2, 3, 4, 5);
        y.feed(1, 2, 3, 4, 5);
        y.back(0);
        due("fault stays", y.fault(), 5);
        due("the tape stays", y.end(40), 40);
        y.image(1);
        due("behind image, too: the tape", y.end(40), 40);
        due("fault", y.fault(), 5);
    }

    private static MendedWebs imageOfNew() {
        MendedWebs x = new MendedWebs();
        x.image(0);
        return x;
    }

    private static void imagesStay() {
        says("V: (IMAGES stay)");
        MendedWebs x = Picture.web();
        x.image(0);
        change(x);
        x.image(1);
        x.back(0);
        change(x);
        x.back(1);
        change(x);
        due("back once more", x.back(0), 0);
        MendedWebs y = Picture.web();
        y.image(0);
        change(y);
        y.image(1);
        y.back(0);
        Picture.same("image 0 is as it was", Picture.of(x), Picture.of(y), "fault", "tape");
        says("V: IMAGES 0, 1: an image kept anew is the later one");
        MendedWebs z = new MendedWebs();
        z.image(0);
        z.flip(3, 1);
        z.image(1);
        z.flip(3, 2);
        z.image(0);
        z.flip(3, 3);
        z.back(1);
        due("image 1", z.cell(3, 0), 1);
        z.back(0);
        due("image 0", z.cell(3, 0), 2);
        z.step(1);
        z.flip(3, 9);
        z.back(0);
        due("image 0 once more", z.cell(3, 0), 2);
    }

    private static void imageOfAgain() {
        says("V: IMAGES keep which LINE a STEP was and whether it was AMISS, and which WRITES are kept no more");
        MendedWebs x = web("", "let name 0 be 9;let name 0 be 3;let name 1 be name 0 + 1");
        x.step(3);
        x.image(0);
        due("without step 1: amiss", x.again(1), -3);
        due("without step 0", x.again(0), 2);
        x.back(0);
        due("step 0 is left out no more", x.again(0), 2);
        x.back(0);
        Checks.lines(x, "pay 1");
        due("no lines of those", x.again(0), 0);
        x.back(0);
        due("their lines again", x.again(0), 2);
        x.back(0);
        flips(x, 198);
        due("201 writes", x.again(0), -3);
        x.back(0);
        due("3 writes", x.all(8), 3);
        due("kept again", x.again(0), 2);
        MendedWebs y = web("", "let name 0 be 1");
        y.step(1);
        flips(y, 250);
        y.image(0);
        y.step(1);
        y.again(1);
        y.back(0);
        due("200 writes", y.all(8), 200);
        due("not kept", y.again(0), -3);
        due("nor is a spread", y.spread(3, 0), -1);
        flips(y, 1);
        due("200 still", y.all(8), 200);
    }

    public static void main(String[] args) {
        spreadAlone();
        spreadByLines();
        spreadByFlips();
        spreadSince();
        spreadNone();
        spreadLongAgo();
        againTakesBack();
        againAllKept();
        againBehindMany();
        againLatest200();
        againAnew();
        againNoLots();
        againOwnLots();
        againLeftOut();
        againPassed();
        againAmiss();
        againEdges();
        againWritesOfSteps();
        againLongAgo();
        putInEach();
        putInSteps();
        putInFromNow();
        putInCame();
        putInHeld();
        putInOnPaper();
        imageEdges();
        imagesKeepAll();
        imagesStay();
        imageOfAgain();
        Checks.close();
    }
}
