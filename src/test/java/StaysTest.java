import java.util.function.ToIntFunction;

/** What a call that is not refused leaves as it was: all but what the document says of it. */
public final class StaysTest {
    private StaysTest() { }

    private static void due(String what, long got, long want) {
        Checks.due(what, got, want);
    }

    /** The web of pictures behind this call is as without it, but where a name begins with one of these words. */
    private static void leaves(String call, ToIntFunction<MendedWebs> made, int answer, String... but) {
        Checks.says(call + ", and nothing else");
        MendedWebs x = Picture.web();
        due("it", made.applyAsInt(x), answer);
        Picture.same("behind it", Picture.of(x), Picture.of(Picture.web()), but);
    }

    private static void texts() {
        // The laws as they were, told again: none is seen, broken till a step.
        leaves("4: the TEXT of LAWS", x -> Checks.laws(x, "list 0;keep name 0 < 7 or name 2 = 3;rise 1"), 3, "seen", "tape", "fault");
        leaves("4: LAWS that none of the lines bears on", x -> Checks.laws(x, "keep 1 = 1"), 1, "seen", "tape", "fault", "holds", "asked",
            "bears", "least", "mends", "putIn", "all 6 five");
        // The lines as they were, told again where line 0 is next: steps ahead have no line, no routine.
        leaves("5: the TEXT of LINES", x -> Checks.lines(x, "let name 0 be name 0 + 3 if name 0 < 6;pay name 2 + name 0;"
            + "let next(node 0) be node 1 if name 0 > 1;let key(head 0) be name 0 - 1;let name 2 be 3 if name 0 > 6;let head 1 be next(head 0)"), 6,
            "tape", "fault", "again", "done again", "all 6 five");
        leaves("2: bytes behind the TAPE", x -> x.feed(1, 2, 3, 4, 5), 26, "tape");
        leaves("3: the TAPE has its first n bytes alone", x -> x.end(5), 5, "tape");
    }

    private static void told() {
        leaves("15: WATCH", x -> x.watch(1), 3, "watch", "all 6 five");
        leaves("15: WATCH as it was", x -> x.watch(3), 3);
        leaves("16: a ROUTINE", x -> x.routine(0, 5), 0, "all 6 five");
        leaves("16: a ROUTINE as it was", x -> x.routine(1, 3), 0);
        leaves("21: PRICE", x -> x.price(1, 4), 3, "price 1", "least", "mends");
        leaves("21: PRICE as it was", x -> x.price(1, 3), 3);
        leaves("22: a COPY", x -> x.copy(), 0, "least", "mends");
        leaves("23: WEIGHTY", x -> x.weighty(1 << 5), 1 << 3 | 1 << 10, "weighty", "least 1 2", "least 2 2");
        leaves("23: WEIGHTY as it was", x -> x.weighty(1 << 3 | 1 << 10), 1 << 3 | 1 << 10);
        leaves("31: IMAGE 0", x -> x.image(0), 0, "back 0", "behind back 0");
        leaves("31: IMAGE 1", x -> x.image(1), 0, "back 1", "behind back 1");
        leaves("31, 32: BACK to an IMAGE just kept", x -> {
            x.image(1);
            return x.back(1);
        }, 0, "back 1", "behind back 1");
    }

    /** Without lots, what goes on is as it was but for what the lots do. */
    private static void lots() {
        Checks.says("14: CHANCE and a SEED, and nothing else");
        MendedWebs x = Picture.web();
        MendedWebs y = Picture.web();
        due("x", x.lots(0, 5), 0);
        due("y", y.lots(0, 77), 0);
        Picture.same("another seed without a chance", Picture.of(x), Picture.of(y));
        leaves("14: CHANCE", z -> z.lots(0, 0), 0, "all 5 five", "all 8 five", "cell", "done again");
    }

    private static void flips() {
        Checks.says("12: a CELL flips by hand, and nothing else");
        MendedWebs web = Picture.web();
        for (int c = 0; c < 24; c++) {
            int cell = c;
            int is = web.cell(c, 0);
            // To what it is: a write more; it is no more in a spread, for it was flipped.
            leaves("12: a CELL flips by hand", x -> x.flip(cell, is), is, "all 8", "spread");
        }
        leaves("13: written as flips", x -> {
            Checks.feed(x, web.cell(3, 0), web.cell(4, 0));
            return x.row(3);
        }, 2, "all 8", "spread", "tape");
    }

    private static void sure() {
        MendedWebs web = Picture.web();
        int cell = Picture.marked(web);
        leaves("27: A CELL is SURE again", x -> x.sure(cell), 0, "mark", "all 3 five", "all 4 five", "out", "putIn");
    }

    private static void questions() {
        Checks.says("questions change nothing");
        MendedWebs x = Picture.web();
        for (int i = -1; i < 26; i++) ask(x, i);
        Picture.same("behind them", Picture.of(x), Picture.of(Picture.web()));
        Checks.says("33: status is of the calls that it names: no question is one");
        MendedWebs y = Picture.web();
        y.routine(0, 6);
        for (int i = -1; i < 26; i++) {
            ask(y, i);
            due("behind questions of " + i, y.status(), -2);
        }
        y.copy();
        due("behind copy", y.status(), -2);
        y.end(3);
        due("behind end", y.status(), -2);
        y.feed(1, 2, 3, 4, 5);
        due("behind feed", y.status(), -2);
    }

    private static void ask(MendedWebs x, int i) {
        x.fault();
        x.holds(i);
        x.bears(i);
        x.asked(i);
        x.out(i);
        x.all(i);
        for (int k = 0; k < 4; k++) {
            x.cell(i, k);
            x.way(k, i);
            x.seen(i, k);
            x.least(k, i % 4);
            x.mends(k, i, k, 1);
            x.spread(i, 20 + k);
            x.putIn(i, k);
        }
        x.status();
    }

    private static void mends() {
        Checks.says("26: its CELLS are MARKED: and nothing else");
        MendedWebs x = Checks.web("keep name 0 = 1;list 0", "let name 1 be 2;pay 3;let name 2 be 10;pay 4 if 1 = 2");
        x.watch(3);
        x.routine(0, 1);
        x.lots(300, 4);
        x.step(9);
        Checks.mark(x, 5);
        Checks.laws(x, "keep name 0 = 1;list 0");
        x.flip(3, 7);
        x.lots(0, 0);
        x.step(5);
        int[] all = new int[9];
        for (int w = 0; w < 9; w++) all[w] = x.all(w);
        int[] cells = new int[24];
        for (int c = 0; c < 24; c++) cells[c] = x.cell(c, 0) + 100 * x.cell(c, 1) + 1000 * x.cell(c, 2) + 10000 * x.cell(c, 3);
        int since = x.seen(0, 0);
        int in = x.seen(0, 1);
        due("it is broken", since >= 9 ? 1 : 0, 1);
        due("it is seen", in >= since ? 1 : 0, 1);
        due("mended", x.mend(1, 0) > 0 ? 1 : 0, 1);
        due("it holds, but not behind a step: since", x.seen(0, 0), since);
        due("seen", x.seen(0, 1), in);
        for (int w = 0; w < 9; w++) due("all " + w, x.all(w), all[w] + (w == 8 ? 1 : 0));
        for (int c = 0; c < 24; c++)
            if (c != 3) due("cell " + c, x.cell(c, 0) + 100 * x.cell(c, 1) + 1000 * x.cell(c, 2) + 10000 * x.cell(c, 3), cells[c]);
        due("the mended cell's line stays", x.cell(3, 3), -1);
        x.step(1);
        due("behind a step: since", x.seen(0, 0), -1);
        due("seen no more", x.seen(0, 1), -1);
    }

    /** All that is counted, seen, told before. */
    private static int[] counted(MendedWebs x) {
        int[] all = new int[8 + 12 + 24 + 8];
        for (int w = 0; w < 8; w++) all[w] = x.all(w);
        for (int l = 0; l < 4; l++) for (int w = 0; w < 3; w++) all[8 + 3 * l + w] = x.seen(l, w);
        for (int c = 0; c < 24; c++) all[20 + c] = x.cell(c, 2);
        for (int i = 0; i < 8; i++) all[44 + i] = x.out(i);
        return all;
    }

    private static void again() {
        Checks.says("29: All else that is counted stays");
        MendedWebs x = Picture.web();
        int[] before = counted(x);
        due("again", x.again(20) >= 0 ? 1 : 0, 1);
        int[] behind = counted(x);
        for (int i = 0; i < before.length; i++) due("what " + i, behind[i], before[i]);
        due("prices stay", x.price(1, 1), 3);
        due("weighty ones stay", x.weighty(0), 1 << 3 | 1 << 10);
        due("the watch stays", x.watch(0), 3);
        due("the tape stays", x.end(6), 6);
        due("fault stays", x.fault(), 5);
        Checks.says("29: no PAYS: neither PAID nor HELD BACK is counted");
        MendedWebs y = Checks.web("", "let name 0 be 1;pay name 1;pay name 0;pay name 0 + name 2");
        y.step(5);
        Checks.mark(y, 4);
        y.step(5);
        due("held", y.all(4), 2);
        due("paid", y.all(3), 5);
        for (int s = 9; s > 5; s--) {
            due("without step " + s, y.again(s), 0);
            due("held as it was", y.all(4), 2);
            due("paid as it was", y.all(3), 5);
        }
        MendedWebs z = Checks.web("", "let name 0 be 1;pay name 1;pay name 0;pay name 0 + name 2");
        z.step(5);
        Checks.mark(z, 4);
        z.step(5);
        due("without step 6", z.again(6), 3);
        due("marked still", z.cell(4, 1), 1);
        due("held as it was", z.all(4), 2);
        due("paid as it was", z.all(3), 5);
        due("the fifth paid", z.out(4), 1);
        due("no sixth", z.out(5), -1000);
    }

    private static void seen() {
        Checks.says("III: SEEN (till it HOLDS behind a STEP again)");
        MendedWebs x = Checks.web("keep name 0 = 0;keep name 1 = 0", "let name 0 be 1;pay 1");
        x.watch(3);
        x.step(2);
        due("lines", Checks.lines(x, "pay 1;let name 1 be 1 if name 1 = 5"), 2);
        due("behind lines: since", x.seen(0, 0), 0);
        due("behind lines: seen", x.seen(0, 1), 0);
        due("without step 0", x.again(0), 0);
        due("it holds", x.holds(0), 1);
        due("but not behind a step: since", x.seen(0, 0), 0);
        due("but not behind a step: seen", x.seen(0, 1), 0);
        due("the other one was not", x.seen(1, 0), -1);
        x.step(1);
        due("behind a step: since", x.seen(0, 0), -1);
        due("behind a step: seen", x.seen(0, 1), -1);
        due("late as it was", x.seen(0, 2), 0);
    }

    public static void main(String[] args) {
        texts();
        told();
        lots();
        flips();
        sure();
        questions();
        mends();
        again();
        seen();
        Checks.close();
    }
}
