import java.util.function.ToIntFunction;

/** What a refused call leaves as it was: all of a web; what status() tells, and behind which calls. */
public final class RefusedTest {
    private RefusedTest() { }

    private static void due(String what, long got, long want) {
        Checks.due(what, got, want);
    }

    /** A call that is refused, or answers NONE, leaves all as it was. */
    private static void leaves(String call, ToIntFunction<MendedWebs> made, int answer, int status, String... but) {
        Checks.says(call);
        MendedWebs x = Picture.web();
        due("status ahead of it", x.status(), 0);
        due("it", made.applyAsInt(x), answer);
        due("status", x.status(), status);
        Picture.same("behind it", Picture.of(x), Picture.of(Picture.web()), but);
    }

    private static void refusals() {
        leaves("laws: a TEXT that can't be", x -> x.laws(), -6, -6, "tape", "fault");
        leaves("laws: blanks alone", x -> Checks.laws(x, "  "), -6, -6, "tape", "fault");
        leaves("laws: 13 of them", x -> Checks.laws(x, Checks.times("list 0;", 12) + "list 0"), -6, -6, "tape", "fault");
        leaves("laws: the last one can't be", x -> Checks.laws(x, "list 1;rise 1;keep 1 = 1;list 3"), -6, -6, "tape", "fault");
        leaves("lines: a TEXT that can't be", x -> x.lines(), -6, -6, "tape", "fault");
        leaves("lines: blanks alone", x -> Checks.lines(x, "  "), -6, -6, "tape", "fault");
        leaves("lines: 13 of them", x -> Checks.lines(x, Checks.times("pay 1;", 12) + "pay 1"), -6, -6, "tape", "fault");
        leaves("lines: the last one can't be", x -> Checks.lines(x, "pay 1;pay 2;pay x"), -6, -6, "tape", "fault");
        leaves("flip: no such cell", x -> x.flip(24, 0), -1, -1);
        leaves("flip: no such cell below", x -> x.flip(-1, 0), -1, -1);
        leaves("flip: a value that can't be", x -> x.flip(3, 10), -1, -1);
        leaves("row: no such cell", x -> x.row(24), -1, -1, "tape");
        leaves("row: no such cell below", x -> x.row(-1), -1, -1, "tape");
        leaves("row: too many bytes", x -> x.row(19), -6, -6, "tape");
        leaves("lots: chance", x -> x.lots(1001, 5), -1, -1);
        leaves("lots: chance below", x -> x.lots(-1, 5), -1, -1);
        leaves("lots: seed", x -> x.lots(5, 1000001), -1, -1);
        leaves("lots: seed below", x -> x.lots(5, -1), -1, -1);
        leaves("watch: 4", x -> x.watch(4), -1, -1);
        leaves("watch: -1", x -> x.watch(-1), -1, -1);
        leaves("routine: to is not there", x -> x.routine(0, 6), -2, -2);
        leaves("routine: from is not there", x -> x.routine(-1, 0), -2, -2);
        leaves("routine: from above to", x -> x.routine(3, 2), -3, -3);
        leaves("step: 0", x -> x.step(0), -1, -1);
        leaves("step: 65", x -> x.step(65), -1, -1);
        leaves("price: kind", x -> x.price(5, 5), -1, -1);
        leaves("price: kind below", x -> x.price(-1, 5), -1, -1);
        leaves("price: 0", x -> x.price(0, 0), -1, -1);
        leaves("price: 10", x -> x.price(0, 10), -1, -1);
        leaves("weighty: too many", x -> x.weighty(1 << 24), -1, -1);
        leaves("weighty: below", x -> x.weighty(-1), -1, -1);
        leaves("mend: by none", x -> x.mend(0, 0), -1, -1);
        leaves("mend: by 4", x -> x.mend(4, 0), -1, -1);
        leaves("mend: no such", x -> x.mend(3, 500), -3, -3);
        leaves("mend: no such below", x -> x.mend(3, -2), -3, -3);
        leaves("sure: no such cell", x -> x.sure(24), -1, -1);
        leaves("sure: no such cell below", x -> x.sure(-1), -1, -1);
        leaves("sure: not marked", x -> x.sure(20), -3, -3);
        leaves("again: not yet", x -> x.again(24), -1, -1);
        leaves("again: below", x -> x.again(-1), -1, -1);
        leaves("image: 2", x -> x.image(2), -1, -1);
        leaves("image: -1", x -> x.image(-1), -1, -1);
        leaves("back: 2", x -> x.back(2), -1, -1);
        leaves("back: -1", x -> x.back(-1), -1, -1);
    }

    private static void questions() {
        leaves("feed: above 400", x -> {
            for (int i = 0; i < 19; i++) x.feed(1, 2, 3, 4, 5);
            return x.feed(1, 2, 3, 4, 5);
        }, -1, 0, "tape");
        leaves("end: more than there is", x -> x.end(7), -1, 0);
        leaves("end: below 0", x -> x.end(-1), -1, 0);
        leaves("least: by 4", x -> x.least(4, 0), -1, 0);
        leaves("least: what", x -> x.least(1, 3), -1, 0);
        leaves("mends: no such", x -> x.mends(3, 500, 0, 0), -1000, 0);
        leaves("spread: not yet", x -> x.spread(0, 24), -1, 0);
        leaves("putIn: 25", x -> x.putIn(25, 0), -1, 0);
        leaves("holds, bears, asked, cell, way, seen, all, out of none", x -> x.holds(9) + x.bears(9) + x.asked(9) + x.cell(24, 0)
            + x.way(3, 0) + x.seen(9, 0) + x.all(9) + x.out(99), -2006, 0);
        leaves("a spread, a least, a putIn of what there is", x -> x.spread(0, 20) * 0 + x.least(3, 1) * 0 + x.putIn(24, 3) * 0, 0, 0);
    }

    /** An AGAIN that is refused where a step would be amiss, and one that is told of writes lost. */
    private static void againRefused() {
        Checks.says("again: AMISS that was not: all stays as it is");
        MendedWebs x = amissWithout0();
        due("it", x.again(0), -3);
        due("status", x.status(), -3);
        Picture.same("behind it", Picture.of(x), Picture.of(amissWithout0()));
        Checks.says("again: not one of the latest 200");
        MendedWebs y = many();
        due("it", y.again(0), -3);
        due("status", y.status(), -3);
        Picture.same("behind it", Picture.of(y), Picture.of(many()));
        Checks.says("mend: it is to be asked");
        MendedWebs z = asked();
        due("it", z.mend(1, -1), -3);
        due("status", z.status(), -3);
        Picture.same("behind it", Picture.of(z), Picture.of(asked()));
        Checks.says("mend: all LAWS HOLD");
        MendedWebs w = Checks.web("list 0", "pay 1;pay name 1");
        due("it", w.mend(1, 0), -3);
        due("status", w.status(), -3);
        Picture.same("behind it", Picture.of(w), Picture.of(Checks.web("list 0", "pay 1;pay name 1")));
    }

    private static MendedWebs amissWithout0() {
        MendedWebs x = Checks.web("list 0", "let head 0 be node 1;let key(head 0) be 5;pay key(head 0);let name 1 be 2");
        x.watch(3);
        x.lots(500, 2);
        x.step(5);
        x.lots(0, 0);
        return x;
    }

    private static MendedWebs many() {
        MendedWebs x = Checks.web("list 0", "pay 1;pay name 1");
        for (int i = 0; i < 4; i++) x.step(51);
        return x;
    }

    private static MendedWebs asked() {
        MendedWebs x = Checks.web("keep name 0 + name 1 > 8", "pay 1;pay name 1");
        x.weighty(1 << 3);
        x.step(3);
        return x;
    }

    private static void aheadOfAny() {
        Checks.says("33: 0 if it was not, or ahead of any");
        MendedWebs x = new MendedWebs();
        due("ahead of any", x.status(), 0);
        others(x);
        due("behind others alone", x.status(), 0);
    }

    /** All calls of which status tells nothing, many of them wrong ones. */
    private static void others(MendedWebs x) {
        x.feed(0, 0, 0, 0, 0);
        x.end(99);
        x.end(0);
        x.fault();
        x.holds(99);
        x.bears(99);
        x.asked(99);
        x.cell(99, 99);
        x.way(99, 99);
        x.seen(99, 99);
        x.all(99);
        x.out(99);
        x.copy();
        x.least(0, 0);
        x.mends(0, 0, 0, 0);
        x.spread(99, 99);
        x.putIn(0, 0);
        x.status();
    }

    /** Each of the calls that status tells of: refused, then not; others between leave it. */
    private static void latestCall(String name, ToIntFunction<MendedWebs> refused, int by, ToIntFunction<MendedWebs> fine) {
        Checks.says("33: What the latest call of " + name + " was REFUSED by; 0 if it was not");
        MendedWebs x = Picture.web();
        due("refused", refused.applyAsInt(x), by);
        due("status", x.status(), by);
        others(x);
        due("status behind others", x.status(), by);
        MendedWebs y = Picture.web();
        y.step(0);
        due("another's", y.status(), -1);
        fine.applyAsInt(y);
        due("status of a fine one", y.status(), 0);
        others(y);
        due("status behind others", y.status(), 0);
    }

    private static void latest() {
        latestCall("laws", x -> x.laws(), -6, x -> Checks.laws(x, "list 0"));
        latestCall("lines", x -> x.lines(), -6, x -> Checks.lines(x, "pay 1"));
        latestCall("flip", x -> x.flip(24, 0), -1, x -> x.flip(0, -1));
        latestCall("row", x -> x.row(23), -6, x -> x.row(3));
        latestCall("lots", x -> x.lots(-1, 0), -1, x -> x.lots(0, 0));
        latestCall("watch", x -> x.watch(4), -1, x -> x.watch(0));
        latestCall("routine", x -> x.routine(1, 6), -2, x -> x.routine(0, 0));
        latestCall("routine", x -> x.routine(1, 0), -3, x -> x.routine(0, 1));
        latestCall("step", x -> x.step(65), -1, x -> x.step(1));
        latestCall("price", x -> x.price(0, 0), -1, x -> x.price(0, 1));
        latestCall("weighty", x -> x.weighty(-1), -1, x -> x.weighty(0));
        latestCall("mend", x -> x.mend(0, 0), -1, x -> x.mend(3, 0));
        latestCall("mend", x -> x.mend(1, 500), -3, x -> x.mend(3, 0));
        latestCall("sure", x -> x.sure(20), -3, x -> x.sure(Picture.marked(x)));
        latestCall("again", x -> x.again(-1), -1, x -> x.again(20));
        latestCall("image", x -> x.image(2), -1, x -> x.image(0));
        latestCall("back", x -> x.back(2), -1, x -> x.back(1));
    }

    public static void main(String[] args) {
        Picture.check();
        refusals();
        questions();
        againRefused();
        aheadOfAny();
        latest();
        Checks.close();
    }
}
