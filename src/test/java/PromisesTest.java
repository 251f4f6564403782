/** The document promise by promise: ordinary inputs, the edges that it names, wrong inputs. */
public final class PromisesTest {
    private static final int NOTHING = -1;
    private static final int WITHOUT = -1000;

    private PromisesTest() { }

    private static void due(String what, long got, long want) {
        Checks.due(what, got, want);
    }

    private static MendedWebs web(String laws, String lines) {
        return Checks.web(laws, lines);
    }

    private static String times(String what, int n) {
        return Checks.times(what, n);
    }

    /** NEXT, BACK, KEY of a node. */
    private static int next(int node) {
        return 6 + 3 * node;
    }

    private static int back(int node) {
        return 7 + 3 * node;
    }

    private static int key(int node) {
        return 8 + 3 * node;
    }

    /** Head 0 leads to these nodes, one behind the other, with backs. */
    private static void chain(MendedWebs x, int... nodes) {
        x.flip(0, nodes[0]);
        for (int i = 0; i < nodes.length; i++) {
            x.flip(next(nodes[i]), i + 1 < nodes.length ? nodes[i + 1] : NOTHING);
            x.flip(back(nodes[i]), i > 0 ? nodes[i - 1] : NOTHING);
        }
    }

    private static void promise1() {
        MendedWebs x = new MendedWebs();
        for (int c = 0; c < 24; c++) {
            boolean number = c >= 3 && c <= 5 || c >= 6 && c % 3 == 2;
            due("1: cell " + c, x.cell(c, 0), number ? 0 : NOTHING);
            due("1: mark " + c, x.cell(c, 1), 0);
            due("1: mended " + c, x.cell(c, 2), 0);
            due("1: line " + c, x.cell(c, 3), -1);
        }
        for (int w = 0; w <= 8; w++) due("1: all " + w, x.all(w), 0);
        due("1: holds", x.holds(0), -1);
        due("1: bears", x.bears(0), -1);
        due("1: fault", x.fault(), -1);
        due("1: status", x.status(), 0);
        due("1: step", x.step(1), -3);
        due("1: tape", x.end(1), -1);
        due("1: watch", x.watch(0), 0);
        due("1: weighty", x.weighty(0), 0);
        int[] prices = {5, 2, 3, 2, 4};
        for (int k = 0; k < 5; k++) due("1: price " + k, x.price(k, 1), prices[k]);
        due("1: image", x.back(0), -2);
        due("1: NONE", MendedWebs.NONE, -1);
    }

    private static void promise2() {
        MendedWebs x = new MendedWebs();
        for (int i = 1; i <= 20; i++) due("2: feed " + i, x.feed(1, 2, 3, 4, 5), 20 * i);
        due("2: above 400", x.feed(1, 2, 3, 4, 5), -1);
        due("2: as before", x.end(400), 400);
        due("2: shorter", x.end(381), 381);
        due("2: 401", x.feed(1, 2, 3, 4, 5), -1);
        x.end(380);
        due("2: just 400", x.feed(1, 2, 3, 4, 5), 400);
        MendedWebs y = new MendedWebs();
        // The highest byte first: name 0, 1, 2 become 9, 8, 7 and node 0 leads to nothing.
        y.feed(0x090807ff, 0x05040302, 0, 0, 0);
        y.end(6);
        due("2: bytes", y.row(3), 6);
        due("2: first", y.cell(3, 0), 9);
        due("2: third", y.cell(5, 0), 7);
        due("2: 255", y.cell(6, 0), NOTHING);
        due("2: fifth", y.cell(7, 0), 5);
        due("2: sixth", y.cell(8, 0), 4);
        due("2: status stays", y.status(), 0);
    }

    private static void promise3() {
        MendedWebs x = new MendedWebs();
        due("3: empty", x.end(0), 0);
        due("3: more than there is", x.end(1), -1);
        due("3: below 0", x.end(-1), -1);
        x.feed(1, 2, 3, 4, 5);
        due("3: whole", x.end(20), 20);
        due("3: 21", x.end(21), -1);
        due("3: 7", x.end(7), 7);
        due("3: 8", x.end(8), -1);
        due("3: behind 7", x.feed(0, 0, 0, 0, 0), 27);
    }

    private static void fault(String text, boolean lines, int place) {
        MendedWebs x = new MendedWebs();
        Checks.text(x, text);
        int answer = lines ? x.lines() : x.laws();
        due("6: refusal of '" + text + "'", answer, place < 0 ? text.split(";").length : -6);
        due("6: fault of '" + text + "'", x.fault(), place);
        due("33: status of '" + text + "'", x.status(), place < 0 ? 0 : -6);
        due("4, 5: tape behind '" + text + "'", x.end(1), -1);
    }

    private static void promise4() {
        MendedWebs x = new MendedWebs();
        due("4: blanks", Checks.laws(x, "   "), -6);
        due("4: blanks' fault", x.fault(), 3);
        due("4: three", Checks.laws(x, "list 0;twin 1;keep 1 = 2"), 3);
        due("4: 0 holds", x.holds(0), 1);
        due("4: 2 does not", x.holds(2), 0);
        due("4: bad", Checks.laws(x, "list 0;"), -6);
        due("4: those before stay", x.holds(2), 0);
        due("4: status", x.status(), -6);
        due("4: the tape is empty then", x.laws(), -6);
        due("4: fault of nothing", x.fault(), 0);
        Checks.lines(x, "let name 0 be 1");
        x.watch(3);
        x.step(2);
        due("4: broken", x.seen(2, 0), 0);
        due("4: anew", Checks.laws(x, "keep 1 = 2"), 1);
        for (int w = 0; w < 3; w++) due("4: not seen till a step " + w, x.seen(0, w), -1);
        x.step(1);
        due("4: broken since this step", x.seen(0, 0), 2);
        due("4: late", x.seen(0, 2), 0);
        due("4: twelve", Checks.laws(x, "list 0" + times(";list 0", 11)), 12);
        due("4: thirteen", Checks.laws(x, "list 0" + times(";list 0", 12)), -6);
        due("4: twelve stay", x.holds(11), 1);
    }

    private static void promise5() {
        MendedWebs x = new MendedWebs();
        due("5: three", Checks.lines(x, "pay 1;let name 0 be 2;let head 1 be nothing"), 3);
        x.step(1);
        due("5: next", x.all(7), 1);
        x.routine(0, 2);
        due("5: bad", Checks.lines(x, "pay"), -6);
        due("5: next stays", x.all(7), 1);
        due("5: anew", Checks.lines(x, "let name 0 be 3;pay 2"), 2);
        due("5: line 0 is next", x.all(7), 0);
        Checks.laws(x, "list 0");
        x.watch(3);
        x.step(1);
        due("5: no routine", x.all(6), 1);
        due("5: blanks", Checks.lines(x, " "), -6);
        due("5: blanks' fault", x.fault(), 1);
        due("5: thirteen", Checks.lines(x, "pay 1" + times(";pay 1", 12)), -6);
        due("5: at the thirteenth", x.fault(), 72);
    }

    private static void promise6() {
        // Tokens.
        fault("list0", false, -1);
        fault("  list   00000000000000000002  ", false, -1);
        fault("lists 0", false, 0);
        fault("list 3", false, 5);
        fault("list", false, 4);
        fault("list  ", false, 6);
        fault("List 0", false, 0);
        fault("list 0,", false, 6);
        fault("list 0 ; twin 0", false, -1);
        fault(";list 0", false, 0);
        fault("list 0;;list 0", false, 7);
        fault("list 0;", false, 7);
        fault("list 0; ", false, 8);
        fault("list\t0", false, 4);
        fault("keep 1=1and2<3or not(4>5)", false, -1);
        // Each rule's first token that can't go on.
        fault("apart 0", false, 7);
        fault("apart 0 3", false, 8);
        fault("apart 2 2", false, -1);
        fault("keep", false, 4);
        fault("keep 1", false, 6);
        fault("keep 1 <", false, 8);
        fault("keep 1 < 2 <", false, 11);
        fault("keep 1 = 2 and", false, 14);
        fault("keep 1 = 2 or or", false, 14);
        fault("keep not", false, 8);
        fault("keep (1 = 1", false, 11);
        fault("keep (1) = 1", false, 7);
        fault("keep [1 = 1]", false, 8);
        fault("keep [1] = [1 + name 2 - length 1 - total 0]", false, -1);
        fault("keep name 3 = 1", false, 10);
        fault("keep length 3 = 1", false, 12);
        fault("keep total x = 1", false, 11);
        fault("keep 99 = 099", false, -1);
        fault("keep 100 = 1", false, 5);
        fault("keep 4294967296 = 1", false, 5);
        fault("keep key(node 0) = 1", false, 5);
        fault("keep 1 = 1 + key(node 0)", false, 13);
        fault("keep head 0 = 1", false, 5);
        fault("pay 1", false, 0);
        fault("list 0", true, 0);
        fault("let", true, 3);
        fault("let pay", true, 4);
        fault("let head 0", true, 10);
        fault("let head 0 be", true, 13);
        fault("let head 0 be 1", true, 14);
        fault("let head 0 be node 6", true, 19);
        fault("let head 0 be node 5", true, -1);
        fault("let head 0 be key(node 0)", true, 14);
        fault("let head 0 be next(back(head 2))", true, -1);
        fault("let head 0 be next head 2", true, 19);
        fault("let name 1 be nothing", true, 14);
        fault("let next(0) be nothing", true, 9);
        fault("let next(nothing) be nothing", true, -1);
        fault("let back(node 0 be nothing", true, 16);
        fault("let key(node 0) be node 1", true, 19);
        fault("let key(node 0) be key(next(node 1)) if key(head 0) = 1", true, -1);
        fault("pay 1 if", true, 8);
        fault("pay 1 if 2", true, 10);
        fault("pay 1 if 2 = 2 if 1 = 1", true, 15);
        fault("pay 1 2", true, 6);
        // Brackets of all kinds within one another.
        fault("keep " + times("[", 8) + "1" + times("]", 8) + " = 1", false, -1);
        fault("keep " + times("[", 9) + "1" + times("]", 9) + " = 1", false, 13);
        fault("keep " + times("(", 8) + "1 = 1" + times(")", 8), false, -1);
        fault("keep " + times("(", 8) + "[1] = 1" + times(")", 8), false, 13);
        fault("keep " + times("(", 7) + "[1] = [1]" + times(")", 7), false, -1);
        fault("keep [1] = [1] and ([1] = 1)", false, -1);
        fault("let head 0 be " + times("next(", 8) + "head 0" + times(")", 8), true, -1);
        fault("let head 0 be " + times("next(", 9) + "head 0" + times(")", 9), true, 14 + 44);
        fault("pay " + times("[", 8) + "key(node 0)" + times("]", 8), true, 15);
        fault("pay " + times("[", 7) + "key(node 0)" + times("]", 7), true, -1);
        // 60 tokens in a law or a line.
        fault("pay 1" + times("+1", 29), true, -1);
        fault("pay 1" + times("+1", 29) + ";pay 2", true, -1);
        fault("pay 1" + times("+1", 29) + "+", true, 63);
        fault("pay 1" + times("+1", 30), true, 63);
        fault("keep" + times(" not", 56) + " 1=1", false, -1);
        fault("keep" + times(" not", 57) + " 1=1", false, 4 + 57 * 4 + 3);
        // Each a row of 12 at most.
        fault("list 0" + times(";list 0", 11), false, -1);
        fault("list 0" + times(";list 0", 11) + ";", false, 84);
        fault("list 0" + times(";list 0", 11) + "; list 0", false, 85);
        MendedWebs x = new MendedWebs();
        due("6: at first", x.fault(), -1);
        Checks.laws(x, "list 9");
        due("6: of laws", x.fault(), 5);
        Checks.lines(x, "pay 1");
        due("6: none of the latest", x.fault(), -1);
    }

    private static void promise7() {
        MendedWebs x = web("list 0;twin 0;rise 0;apart 0 1;apart 0 0;keep length 0 = 2 and total 0 = 9", "");
        int[] empty = {1, 1, 1, 1, 1, 0};
        for (int l = 0; l < 6; l++) due("7: empty web, law " + l, x.holds(l), empty[l]);
        due("7: no such", x.holds(6), -1);
        due("7: below", x.holds(-1), -1);
        chain(x, 4, 1);
        x.flip(key(4), 4);
        x.flip(key(1), 5);
        int[] good = {1, 1, 1, 1, 0, 1};
        for (int l = 0; l < 6; l++) due("7: chain, law " + l, x.holds(l), good[l]);
        x.flip(key(1), 4);
        due("7: alike keys rise", x.holds(2), 1);
        x.flip(key(1), 3);
        due("7: lower key", x.holds(2), 0);
        x.flip(back(4), 0);
        due("7: back of the first", x.holds(1), 0);
        x.flip(back(4), NOTHING);
        x.flip(back(1), NOTHING);
        due("7: back of another", x.holds(1), 0);
        x.flip(1, 1);
        due("7: on both ways", x.holds(3), 0);
        x.flip(1, 5);
        due("7: on one alone", x.holds(3), 1);
        x.flip(next(1), 1);
        due("7: no end", x.holds(0), 0);
        due("7: length of a ring", x.holds(5), 0);
        x.flip(next(1), 4);
        due("7: a ring", x.holds(0), 0);
        x.flip(back(1), 4);
        due("7: twin on a ring", x.holds(1), 1);
        due("7: rise on a ring looks ahead alone", x.holds(2), 0);
        x.flip(key(4), 3);
        due("7: rise on a ring", x.holds(2), 1);
        MendedWebs y = web("keep not 1 = 2 and 3 > 2 or 1 = 2 and 1 = 1;keep not (1 = 1 or 1 = 2);keep 9 - 3 - 2 = 4;"
            + "keep 9 - [3 - 2] = 8;keep not not 1 < 2;keep 1 = 1 or 1 = 2 and 1 = 3;keep 0 - 5 < 0", "");
        int[] tests = {1, 0, 1, 1, 1, 1, 1};
        for (int l = 0; l < tests.length; l++) due("7: test " + l, y.holds(l), tests[l]);
    }

    private static void promise8() {
        MendedWebs x = web("list 0;twin 1;rise 2;apart 0 2;keep name 1 = 1;keep length 1 = 1;keep total 2 = name 0",
            "let head 0 be nothing;let head 1 be nothing;let head 2 be nothing;let name 0 be 1;let name 1 be 1;let name 2 be 1;"
            + "let next(node 0) be nothing;let back(node 0) be nothing;let key(node 0) be 1;pay name 0");
        int[] bits = {9, 34, 76, 64, 16, 0, 111, 2, 68, 0};
        for (int l = 0; l < bits.length; l++) due("8: line " + l, x.bears(l), bits[l]);
        due("8: no such", x.bears(10), -1);
        due("8: below", x.bears(-1), -1);
        Checks.laws(x, "keep 1 = 1");
        due("8: a law without heads", x.bears(6), 0);
        Checks.laws(x, "rise 0;keep [total 1] = 1");
        due("8: key", x.bears(8), 3);
        due("8: back", x.bears(7), 0);
        due("8: head behind total", x.bears(1), 2);
    }

    private static void promise9() {
        MendedWebs x = web("list 0;twin 0;rise 0;apart 0 1;keep length 0 = name 2 or total 1 = 0;keep 1 = 2", "");
        chain(x, 0, 2);
        x.flip(1, 5);
        int ways = 1 | 1 << next(0) | 1 << next(2);
        int other = 2 | 1 << next(5);
        due("9: list", x.asked(0), ways);
        due("9: twin", x.asked(1), ways | 1 << back(0) | 1 << back(2));
        due("9: rise", x.asked(2), ways | 1 << key(0) | 1 << key(2));
        due("9: apart", x.asked(3), ways | other);
        due("9: keep", x.asked(4), ways | other | 1 << 5 | 1 << key(5));
        due("9: none", x.asked(5), 0);
        due("9: no such", x.asked(6), -1);
        due("9: below", x.asked(-1), -1);
        x.flip(next(2), 0);
        due("9: a ring", x.asked(0), ways);
        x.flip(0, NOTHING);
        due("9: an empty way", x.asked(1), 1);
    }

    private static void promise10() {
        MendedWebs x = web("", "let name 0 be 4;let name 0 be 5;let head 2 be node 3");
        due("10: none wrote", x.cell(3, 3), -1);
        x.step(2);
        due("10: it is", x.cell(3, 0), 5);
        due("10: latest line", x.cell(3, 3), 1);
        x.flip(3, 7);
        due("10: a flip is no line", x.cell(3, 3), 1);
        due("10: flipped", x.cell(3, 0), 7);
        x.step(1);
        due("10: head", x.cell(2, 0), 3);
        due("10: its line", x.cell(2, 3), 2);
        Checks.laws(x, "keep name 0 = 9");
        x.mend(1, 0);
        due("10: marked", x.cell(3, 1), 1);
        due("10: mended", x.cell(3, 2), 1);
        x.flip(3, 0);
        due("10: marked as before", x.cell(3, 1), 1);
        x.mend(1, 0);
        due("10: mended twice", x.cell(3, 2), 2);
        due("10: others not", x.cell(4, 2), 0);
        Checks.lines(x, "pay 1");
        due("10: the write is kept", x.cell(3, 3), 1);
        for (int i = 0; i < 200; i++) x.flip(23, 0);
        due("10: it is kept no more", x.cell(3, 3), -1);
        due("10: no such cell", x.cell(24, 0), WITHOUT);
        due("10: below", x.cell(-1, 0), WITHOUT);
        due("10: what 4", x.cell(0, 4), WITHOUT);
        due("10: what -1", x.cell(0, -1), WITHOUT);
        due("10: nothing is not without", x.cell(0, 0), NOTHING);
    }

    private static void promise11() {
        MendedWebs x = new MendedWebs();
        due("11: empty", x.way(0, 0), -1);
        chain(x, 3, 0, 5);
        due("11: first", x.way(0, 0), 3);
        due("11: second", x.way(0, 1), 0);
        due("11: third", x.way(0, 2), 5);
        due("11: behind", x.way(0, 3), -1);
        due("11: below", x.way(0, -1), -1);
        x.flip(next(5), 0);
        due("11: a ring ends", x.way(0, 3), -1);
        x.flip(next(5), 1);
        x.flip(next(1), 2);
        x.flip(next(2), 4);
        x.flip(next(4), 4);
        due("11: sixth", x.way(0, 5), 4);
        due("11: no seventh", x.way(0, 6), -1);
        due("11: no such head", x.way(3, 0), -1);
        due("11: head below", x.way(-1, 0), -1);
        x.flip(2, 4);
        due("11: another head", x.way(2, 0), 4);
        due("11: once", x.way(2, 1), -1);
    }

    private static void promise12() {
        MendedWebs x = new MendedWebs();
        due("12: was nothing", x.flip(0, 5), NOTHING);
        due("12: not refused", x.status(), 0);
        due("12: was 5", x.flip(0, NOTHING), 5);
        due("12: a number", x.flip(8, 9), 0);
        due("12: it is", x.cell(8, 0), 9);
        due("12: writes", x.all(8), 3);
        due("12: no lots", x.all(5), 0);
        int[][] wrong = {{24, 0}, {-1, 0}, {0, 6}, {0, -2}, {3, -1}, {3, 10}, {8, -1}, {8, 10}, {6, 6}, {7, -2}};
        for (int[] w : wrong) {
            due("12: wrong " + w[0] + " " + w[1], x.flip(w[0], w[1]), -1);
            due("12: refused", x.status(), -1);
        }
        due("12: no more writes", x.all(8), 3);
        due("12: the same again", x.flip(8, 9), 9);
        due("12: is a write", x.all(8), 4);
    }

    private static void promise13() {
        MendedWebs x = new MendedWebs();
        due("13: empty", x.row(0), -6);
        due("13: status", x.status(), -6);
        due("13: all", Checks.row(x, 0, 0, 5, 255, 9, 0, 1, 1, 2, 3), 9);
        int[] want = {0, 5, NOTHING, 9, 0, 1, 1, 2, 3};
        for (int c = 0; c < 9; c++) due("13: cell " + c, x.cell(c, 0), want[c]);
        due("13: writes", x.all(8), 9);
        due("13: the tape is empty", x.end(1), -1);
        due("13: passed by", Checks.row(x, 2, 6, 10, 255, 254, 4, 200), 1);
        due("13: stays", x.cell(2, 0), NOTHING);
        due("13: stays, too", x.cell(3, 0), 9);
        due("13: 255 is no number", x.cell(4, 0), 0);
        due("13: written", x.cell(6, 0), 4);
        due("13: none written", Checks.row(x, 23, 10), 0);
        due("13: not refused", x.status(), 0);
        due("13: just to the end", Checks.row(x, 22, 3, 7), 2);
        due("13: beyond the end", Checks.row(x, 23, 3, 7), -6);
        due("13: the tape is empty behind -6", x.end(1), -1);
        due("13: no such cell", Checks.row(x, 24, 1), -1);
        due("13: the tape is empty behind -1", x.feed(0, 0, 0, 0, 0), 20);
        due("13: below", Checks.row(x, -1, 1), -1);
        due("13: the tape is empty behind -1, too", x.end(1), -1);
        due("13: so the next row has none", x.row(0), -6);
        due("13: -1 ahead of -6", new MendedWebs().row(24), -1);
        int[] many = new int[25];
        due("13: 25 bytes", Checks.row(x, 0, many), -6);
        due("13: the tape is empty behind 25 bytes", x.end(1), -1);
        due("13: a refused row writes nothing", x.cell(0, 0), 0);
        MendedWebs y = web("keep name 0 = 9", "");
        y.mend(1, 0);
        Checks.row(y, 3, 1);
        due("13: marked as before", y.cell(3, 1), 1);
    }

    private static void promise14() {
        MendedWebs x = web("", "pay 1");
        due("14: lots", x.lots(1000, 5), 0);
        x.step(1);
        // 17860, 711868 and 200394 are drawn: below 1000 of 1000, cell 4, value 4.
        due("14: flipped", x.cell(4, 0), 4);
        due("14: flips", x.all(5), 1);
        due("14: a write", x.all(8), 1);
        due("14: by no line", x.cell(4, 3), -1);
        due("14: anew", x.lots(1000, 5), 0);
        x.flip(4, 0);
        x.step(1);
        due("14: the same", x.cell(4, 0), 4);
        due("14: no chance", x.lots(0, 0), 0);
        x.step(64);
        due("14: no flips", x.all(5), 2);
        // 12345 of 1000 is 345.
        x.lots(345, 0);
        x.step(1);
        due("14: not below", x.all(5), 2);
        x.lots(346, 0);
        x.step(1);
        due("14: below", x.all(5), 3);
        int[][] wrong = {{-1, 0}, {1001, 0}, {0, -1}, {0, 1000001}};
        for (int[] w : wrong) due("14: wrong " + w[0] + " " + w[1], x.lots(w[0], w[1]), -1);
        due("14: status", x.status(), -1);
        due("14: largest", x.lots(1000, 1000000), 0);
        // A head, next, back becomes a draw of 7 less 1: by hand with the document's rule.
        MendedWebs y = web("", "pay 1");
        int s = 77;
        y.lots(500, s);
        int[] cells = new int[24];
        for (int c = 0; c < 24; c++) cells[c] = y.cell(c, 0);
        int flips = 0;
        for (int i = 0; i < 60; i++) {
            y.step(1);
            s = draw(s);
            if (s % 1000 < 500) {
                s = draw(s);
                int c = s % 24;
                s = draw(s);
                cells[c] = c >= 3 && (c < 6 || c % 3 == 2) ? s % 10 : s % 7 - 1;
                flips++;
            }
        }
        for (int c = 0; c < 24; c++) due("14: drawn " + c, y.cell(c, 0), cells[c]);
        due("14: count", y.all(5), flips);
    }

    private static int draw(int s) {
        return (int) ((s * 1103L + 12345) % 1000003);
    }

    private static void promise15() {
        MendedWebs x = web("list 0;keep name 0 = 0;twin 0", "let name 0 be 0;let name 0 be 0 if 1 = 2;let name 0 be 10;pay 1");
        due("15: was none", x.watch(1), 0);
        x.step(4);
        due("15: those on which it bears, not passed, amiss", x.all(6), 1);
        due("15: was 1", x.watch(2), 1);
        x.step(4);
        due("15: one each step", x.all(6), 5);
        due("15: was 2", x.watch(3), 2);
        x.step(4);
        due("15: all", x.all(6), 17);
        due("15: was 3", x.watch(0), 3);
        x.step(4);
        due("15: none", x.all(6), 17);
        due("15: 4", x.watch(4), -1);
        due("15: -1", x.watch(-1), -1);
        due("15: status", x.status(), -1);
        due("15: stays", x.watch(2), 0);
        MendedWebs y = web("", "pay 1");
        y.watch(2);
        due("15: no laws", y.step(3), 3);
        y.watch(3);
        y.step(3);
        due("15: cost nothing", y.all(6), 0);
        // Law number steps modulo two: law 1 is asked in steps 1, 3.
        MendedWebs z = web("list 0;keep name 0 = 0", "let name 0 be 1;pay 1");
        z.watch(2);
        z.step(1);
        due("15: law 1 is not asked yet", z.seen(1, 1), -1);
        z.step(1);
        due("15: it is asked in step 1", z.seen(1, 1), 1);
    }

    private static void promise16() {
        MendedWebs x = web("keep name 0 = 0", "let name 0 be 1;let name 1 be 1;let name 0 be 1;let name 0 be 1");
        due("16: told", x.routine(0, 2), 0);
        x.watch(3);
        x.step(2);
        due("16: nothing is asked", x.all(6), 0);
        due("16: nor seen", x.seen(0, 1), -1);
        due("16: but broken", x.seen(0, 0), 0);
        x.step(1);
        due("16: behind its last one", x.all(6), 1);
        due("16: seen", x.seen(0, 1), 2);
        due("16: late", x.seen(0, 2), 2);
        x.step(1);
        due("16: outside", x.all(6), 2);
        due("16: one line", x.routine(3, 3), 0);
        x.step(4);
        due("16: all asked", x.all(6), 6);
        due("16: no such", x.routine(0, 4), -2);
        due("16: no such from", x.routine(-1, 3), -2);
        due("16: -2 ahead of -3", x.routine(4, 3), -2);
        due("16: from above to", x.routine(2, 1), -3);
        due("16: status", x.status(), -3);
        due("16: no lines", new MendedWebs().routine(0, 0), -2);
        MendedWebs y = web("keep name 0 = 0", "let name 0 be 1;let name 0 be 1");
        y.routine(0, 1);
        y.watch(2);
        y.step(1);
        due("16: in watch 2, too", y.all(6), 0);
        y.watch(1);
        y.step(2);
        due("16: in watch 1, too", y.all(6), 1);
    }

    private static void promise17() {
        MendedWebs x = new MendedWebs();
        due("17: no lines", x.step(1), -3);
        due("17: -1 ahead of -3", x.step(0), -1);
        Checks.lines(x, "let name 0 be name 0 + 1;let head 0 be node 2 if name 0 > 1;let key(head 0) be name 0;pay key(head 0)");
        due("17: 0", x.step(0), -1);
        due("17: 65", x.step(65), -1);
        due("17: below", x.step(-1), -1);
        due("17: status", x.status(), -1);
        due("17: four", x.step(4), 4);
        due("17: passed", x.all(1), 1);
        due("17: amiss", x.all(2), 2);
        due("17: nothing is done", x.all(3), 0);
        due("17: again from line 0", x.step(4), 8);
        due("17: name", x.cell(3, 0), 2);
        due("17: head", x.cell(0, 0), 2);
        due("17: key", x.cell(key(2), 0), 2);
        due("17: paid", x.out(0), 2);
        due("17: 64", x.step(64), 72);
        due("17: name is 9 at most", x.cell(3, 0), 9);
        due("17: amiss above 9", x.all(2), 2 + 9);
        amissAndPassed();
        marksFlow();
    }

    private static void amissAndPassed() {
        // A test that is amiss is amiss, though the other side of "or" is so; all of a test is done first.
        MendedWebs x = web("", "let name 0 be 1 if 1 = 1 or key(nothing) = 0");
        x.step(1);
        due("17: amiss in a test", x.all(2), 1);
        x = web("", "let name 0 be 1 if 1 = 2 and key(next(nothing)) = 0");
        x.step(1);
        due("17: amiss in 'and'", x.all(2), 1);
        x = web("", "let next(nothing) be nothing if 1 = 2");
        x.step(1);
        due("17: passed ahead of its place", x.all(1), 1);
        x = web("", "let next(nothing) be nothing;let back(head 0) be nothing;let key(back(node 0)) be 1;"
            + "let head 0 be next(head 1);let name 0 be key(head 0);pay key(head 0);let name 0 be 0 - 1;let name 0 be 10");
        x.step(8);
        due("17: all amiss", x.all(2), 8);
        due("17: no writes", x.all(8), 0);
        due("17: nothing paid", x.all(3), 0);
        x = web("", "let head 0 be nothing;let next(node 1) be head 0;pay 0 - 9;pay 99 + 99");
        x.step(4);
        due("17: nothing is fine to be", x.all(8), 2);
        due("17: below 0 is fine to pay", x.out(0), -9);
        due("17: above 9, too", x.out(1), 198);
    }

    private static void marksFlow() {
        MendedWebs x = web("keep name 0 = 3", "let name 1 be name 0;let name 2 be name 1;let name 1 be 5;pay name 2;pay name 1;"
            + "let head 0 be node 1 if name 2 > 0 or 1 = 1;let next(head 0) be nothing;let key(node 5) be length 0;pay 1 if name 0 = 0");
        x.mend(1, 0);
        x.step(2);
        due("17: marked by reading", x.cell(4, 1), 1);
        due("17: and on", x.cell(5, 1), 1);
        x.step(1);
        due("17: not marked by a constant", x.cell(4, 1), 0);
        x.step(1);
        due("17: held back", x.all(4), 1);
        due("17: not paid", x.all(3), 0);
        x.step(1);
        due("17: paid", x.out(0), 5);
        x.step(1);
        due("17: marked by a test", x.cell(0, 1), 1);
        x.step(1);
        due("17: marked by its place's node", x.cell(next(1), 1), 1);
        x.step(1);
        due("17: marked by a way", x.cell(key(5), 1), 1);
        x.step(1);
        due("17: passed, not held back", x.all(4), 1);
        due("17: passed", x.all(1), 1);
        x.lots(1000, 5);
        x.flip(4, 0);
        MendedWebs y = web("keep name 1 = 9", "pay 1");
        y.mend(1, 0);
        y.lots(1000, 5);
        y.step(1);
        due("17: lots leave marks as they are", y.cell(4, 1), 1);
        due("17: flipped by lots", y.cell(4, 0), 4);
    }

    private static void promise18() {
        MendedWebs x = web("keep name 0 = 0;list 0", "pay 1;let name 0 be 1;pay 2;let name 1 be 1;let name 0 be 0");
        x.watch(2);
        x.step(1);
        due("18: not broken", x.seen(0, 0), -1);
        x.step(1);
        due("18: broken since 1", x.seen(0, 0), 1);
        due("18: not seen in 1", x.seen(0, 1), -1);
        due("18: not late yet", x.seen(0, 2), -1);
        x.step(1);
        due("18: seen in 2", x.seen(0, 1), 2);
        due("18: late 1", x.seen(0, 2), 1);
        x.step(1);
        due("18: still seen in 2", x.seen(0, 1), 2);
        x.step(1);
        due("18: whole again", x.seen(0, 0), -1);
        due("18: seen no more", x.seen(0, 1), -1);
        due("18: late of the latest time", x.seen(0, 2), 1);
        due("18: the other law", x.seen(1, 2), -1);
        x.watch(3);
        x.step(2);
        due("18: broken since 6", x.seen(0, 0), 6);
        due("18: late 0 now", x.seen(0, 2), 0);
        x.flip(3, 0);
        due("18: till a step", x.seen(0, 0), 6);
        x.step(1);
        due("18: a flip mends it", x.seen(0, 0), -1);
        x.flip(3, 5);
        due("18: broken by hand, not behind a step", x.seen(0, 0), -1);
        x.step(1);
        due("18: since the next step", x.seen(0, 0), 8);
        due("18: no such law", x.seen(2, 0), -1);
        due("18: below", x.seen(-1, 0), -1);
        due("18: what 3", x.seen(0, 3), -1);
        due("18: what -1", x.seen(0, -1), -1);
        // Lots break it in the step of their own.
        MendedWebs y = web("keep name 1 = 0", "pay 1");
        y.watch(3);
        y.lots(1000, 5);
        y.step(1);
        due("18: by lots", y.seen(0, 0), 0);
        due("18: seen at once", y.seen(0, 1), 0);
    }

    private static void promise19() {
        MendedWebs x = web("keep name 0 = 3", "let name 1 be name 0;pay name 1;pay 4;pay 1 if 1 = 2;let name 0 be 10");
        x.mend(1, 0);
        x.watch(3);
        x.step(5);
        int[] want = {5, 1, 1, 1, 1, 0, 5, 0, 2};
        for (int w = 0; w < want.length; w++) due("19: what " + w, x.all(w), want[w]);
        x.step(1);
        due("19: line 1 is next", x.all(7), 1);
        due("19: 9", x.all(9), -1);
        due("19: -1", x.all(-1), -1);
        for (int i = 0; i < 300; i++) x.flip(9, 1);
        due("19: 200 writes are kept", x.all(8), 200);
    }

    private static void promise20() {
        MendedWebs x = web("", "let name 0 be 0 if name 0 = 9;let name 0 be name 0 + 1;pay name 0");
        due("20: none", x.out(0), WITHOUT);
        x.step(9);
        due("20: first", x.out(0), 1);
        due("20: third", x.out(2), 3);
        due("20: behind", x.out(3), WITHOUT);
        due("20: below", x.out(-1), WITHOUT);
        MendedWebs y = web("", "pay 7;pay 8");
        y.step(64);
        y.step(36);
        due("20: the 100th", y.out(99), 8);
        y.step(10);
        due("20: 100 are kept", y.out(100), WITHOUT);
        due("20: the first ones", y.out(0), 7);
        due("20: all are counted", y.all(3), 110);
    }

    private static void promise21() {
        MendedWebs x = web("keep name 0 = 3", "");
        due("21: least", x.least(1, 0), 2);
        due("21: was", x.price(1, 9), 2);
        due("21: as told", x.least(1, 0), 9);
        due("21: was 9", x.price(1, 1), 9);
        int[][] wrong = {{-1, 1}, {5, 1}, {0, 0}, {0, 10}, {0, -1}};
        for (int[] w : wrong) due("21: wrong " + w[0] + " " + w[1], x.price(w[0], w[1]), -1);
        due("21: status", x.status(), -1);
        due("21: stays", x.price(0, 5), 5);
        // What each kind costs where only that kind mends.
        MendedWebs y = web("list 0", "");
        y.flip(0, 0);
        y.flip(next(0), 0);
        y.price(0, 9);
        due("21: next", y.least(1, 0), 3);
        y.price(2, 8);
        due("21: next as told", y.least(1, 0), 8);
        y.price(0, 2);
        due("21: a head", y.least(1, 0), 2);
        MendedWebs z = web("twin 0", "");
        z.flip(0, 0);
        z.flip(back(0), 3);
        due("21: back", z.least(1, 0), 2);
        MendedWebs k = web("keep total 0 = 7", "");
        k.flip(0, 0);
        k.flip(next(0), NOTHING);
        due("21: key", k.least(1, 0), 4);
    }

    private static void promise22() {
        MendedWebs x = web("keep name 0 > 4", "");
        x.flip(3, 7);
        due("22: copy", x.copy(), 0);
        x.flip(3, 1);
        due("22: 1 less for what the copy has", x.least(1, 0), 1);
        due("22: that one alone", x.least(1, 1), 1);
        due("22: 7", x.mends(1, 0, 0, 1), 7);
        x.price(1, 1);
        due("22: 1 at least", x.least(1, 0), 1);
        due("22: so all are alike", x.least(1, 1), 5);
        x.price(1, 3);
        x.copy();
        due("22: another copy", x.least(1, 0), 3);
        x.routine(0, 0);
        x.copy();
        due("22: status stays", x.status(), -2);
    }

    private static void promise23() {
        MendedWebs x = web("keep name 0 + name 1 > 8", "");
        due("23: least", x.least(1, 1), 2);
        due("23: not weighty", x.least(1, 2), 0);
        due("23: was", x.weighty(1 << 3), 0);
        due("23: they differ", x.least(1, 2), 1);
        due("23: was 8", x.weighty(1 << 5), 8);
        due("23: not in this", x.least(1, 2), 0);
        due("23: all bits", x.weighty((1 << 24) - 1), 32);
        due("23: too many", x.weighty(1 << 24), -1);
        due("23: below", x.weighty(-1), -1);
        due("23: status", x.status(), -1);
        due("23: stays", x.weighty(0), (1 << 24) - 1);
    }

    private static void promise24() {
        MendedWebs x = new MendedWebs();
        due("24: no laws", x.least(1, 0), 0);
        due("24: one mend", x.least(1, 1), 1);
        due("24: alike", x.least(1, 2), 0);
        int[][] wrong = {{0, 0}, {4, 0}, {-1, 0}, {1, 3}, {1, -1}};
        for (int[] w : wrong) due("24: wrong " + w[0] + " " + w[1], x.least(w[0], w[1]), -1);
        Checks.laws(x, "keep 1 = 2");
        for (int w = 0; w < 3; w++) due("24: none " + w, x.least(3, w), -1);
        Checks.laws(x, "keep name 0 = 1 and name 1 = 2");
        due("24: not by one", x.least(1, 0), -1);
        due("24: by two", x.least(2, 0), 4);
        due("24: nor more by three", x.least(3, 0), 4);
        due("24: one", x.least(3, 1), 1);
        Checks.laws(x, "keep name 0 = 1 and name 1 = 2 and name 2 = 9");
        due("24: not by two", x.least(2, 0), -1);
        due("24: by three", x.least(3, 0), 6);
        Checks.laws(x, "keep name 0 = 1 and name 1 = 2 or length 0 = 1");
        x.price(0, 5);
        due("24: a dear one", x.least(1, 0), 5);
        due("24: 6 of it", x.least(1, 1), 6);
        due("24: two cheaper ones", x.least(2, 0), 4);
        x.price(0, 4);
        due("24: of alike ones the fewest cells", x.least(2, 1), 6);
        due("24: a head", x.mends(2, 0, 0, 0), 0);
        recentAndMany();
    }

    private static void recentAndMany() {
        MendedWebs x = web("keep name 0 = 0 or name 1 = 1", "let name 0 be 1;pay 1");
        x.step(1);
        due("24: 1 less for a line's write", x.least(1, 0), 1);
        x.step(7);
        due("24: of the latest 8 steps", x.least(1, 0), 1);
        due("24: that cell", x.mends(1, 0, 0, 0), 3);
        MendedWebs y = web("keep name 0 = 0 or name 1 = 1", "let name 0 be 1;" + times("pay 1;", 10) + "pay 1");
        y.step(8);
        due("24: the eighth", y.least(1, 0), 1);
        y.step(1);
        due("24: not the ninth", y.least(1, 0), 2);
        due("24: both", y.least(1, 1), 2);
        MendedWebs f = web("keep name 0 = 1", "pay 1");
        f.flip(3, 2);
        due("24: a flip is not a line's", f.least(1, 0), 2);
        // 15 pairs of keys with 81 values each, as long as the way is there.
        MendedWebs m = web("keep total 0 > 9", "");
        chain(m, 0, 1, 2, 3, 4, 5);
        m.price(4, 1);
        m.price(0, 9);
        m.price(2, 9);
        due("24: two keys", m.least(2, 0), 2);
        due("24: 15 times 36 of them", m.least(2, 1), 501);
        due("24: the 500th", m.mends(2, 499, 0, 0) > 0 ? 1 : 0, 1);
        due("24: no more", m.mends(2, 500, 0, 0), WITHOUT);
        MendedWebs n = web("keep total 0 > 11", "");
        chain(n, 0, 1, 2, 3, 4);
        n.price(4, 1);
        n.price(0, 9);
        n.price(2, 9);
        // Ten pairs of keys, each with 28 of 81 values that come to 12 or more.
        due("24: just as many", n.least(2, 1), 280);
        due("24: first cell", n.mends(2, 0, 0, 0), key(0));
        due("24: its value", n.mends(2, 0, 0, 1), 3);
        due("24: with 9", n.mends(2, 0, 1, 1), 9);
        due("24: last cell", n.mends(2, 279, 1, 0), key(4));
    }

    private static void promise25() {
        MendedWebs x = web("list 0", "");
        x.flip(0, 2);
        x.flip(next(2), 2);
        due("25: as many", x.least(1, 1), 6);
        int[] values = {NOTHING, 0, 1, 3, 4, 5};
        for (int i = 0; i < 6; i++) {
            due("25: cell of " + i, x.mends(1, i, 0, 0), next(2));
            due("25: value of " + i, x.mends(1, i, 0, 1), values[i]);
        }
        int[][] wrong = {{1, 6, 0, 0}, {1, -1, 0, 0}, {1, 0, 1, 0}, {1, 0, -1, 0}, {1, 0, 0, 2}, {1, 0, 0, -1}, {0, 0, 0, 0},
            {4, 0, 0, 0}};
        for (int[] w : wrong) due("25: without " + java.util.Arrays.toString(w), x.mends(w[0], w[1], w[2], w[3]), WITHOUT);
        Checks.laws(x, "keep name 0 + name 1 + name 2 = 26");
        due("25: three", x.least(3, 1), 3);
        int[][] rows = {{8, 9, 9}, {9, 8, 9}, {9, 9, 8}};
        for (int i = 0; i < 3; i++) {
            for (int k = 0; k < 3; k++) {
                due("25: cell " + i + " " + k, x.mends(3, i, k, 0), 3 + k);
                due("25: value " + i + " " + k, x.mends(3, i, k, 1), rows[i][k]);
            }
        }
        Checks.laws(x, "keep 1 = 1");
        due("25: a mend of no cell", x.mends(1, 0, 0, 0), WITHOUT);
    }

    private static void promise26() {
        MendedWebs x = web("keep name 0 + name 1 > 8", "pay 1");
        due("26: m 0", x.mend(0, 0), -1);
        due("26: m 4", x.mend(4, 0), -1);
        due("26: no such", x.mend(1, 2), -3);
        due("26: below", x.mend(1, -2), -3);
        x.weighty(1 << 4);
        due("26: it is to be asked", x.mend(1, -1), -3);
        due("26: status", x.status(), -3);
        x.step(1);
        due("26: asked", x.mend(1, 1), 2);
        due("26: status then", x.status(), 0);
        due("26: done", x.cell(4, 0), 9);
        due("26: marked", x.cell(4, 1), 1);
        due("26: not the other", x.cell(3, 1), 0);
        due("26: mended", x.cell(4, 2), 1);
        due("26: a write", x.all(8), 1);
        due("26: not of a line", x.cell(4, 3), -1);
        due("26: all laws hold", x.mend(1, 1), -3);
        Checks.laws(x, "keep 1 = 2");
        due("26: there is none", x.mend(3, 0), -3);
        Checks.laws(x, "keep name 0 = 1 and name 2 = 1");
        due("26: two cells", x.mend(2, -1), 4);
        due("26: first", x.cell(3, 0), 1);
        due("26: second", x.cell(5, 1), 1);
        due("26: writes", x.all(8), 3);
        Checks.laws(x, "keep name 2 > 7");
        x.weighty(0);
        due("26: the first, as they do not differ in what matters", x.mend(1, -1), 2);
        due("26: 8", x.cell(5, 0), 8);
        // Head 0 to nothing against another cell: they differ in head 0.
        MendedWebs y = web("list 0", "");
        y.flip(0, 0);
        y.flip(next(0), 0);
        y.price(0, 3);
        y.weighty(1);
        due("26: differ in head 0", y.mend(1, -1), -3);
        due("26: by number", y.mend(1, 0), 3);
        due("26: nothing first", y.cell(0, 0), NOTHING);
    }

    private static void promise27() {
        MendedWebs x = web("keep name 0 = 1", "pay name 0");
        due("27: not marked", x.sure(3), -3);
        x.mend(1, 0);
        due("27: no such cell", x.sure(24), -1);
        due("27: below", x.sure(-1), -1);
        due("27: status", x.status(), -1);
        x.step(1);
        due("27: held", x.all(4), 1);
        due("27: sure", x.sure(3), 0);
        due("27: status then", x.status(), 0);
        due("27: not marked", x.cell(3, 1), 0);
        due("27: it stays as it is", x.cell(3, 0), 1);
        due("27: no write", x.all(8), 1);
        x.step(1);
        due("27: paid", x.out(0), 1);
        due("27: not twice", x.sure(3), -3);
    }

    private static void promise28() {
        MendedWebs x = web("keep name 0 = 9 or 1 = 1", "let name 1 be name 0;let name 2 be name 1;let name 1 be 3;let head 0 be node 1 if name 2 = 0");
        due("28: no step yet", x.spread(3, 0), -1);
        x.step(4);
        due("28: name 0", x.spread(3, 0), 1 << 3 | 1 << 5 | 1);
        due("28: since 1", x.spread(3, 1), 1 << 3);
        due("28: name 1 since 1", x.spread(4, 1), 1 << 5 | 1);
        due("28: name 1 since 0", x.spread(4, 0), 0);
        due("28: name 2 since 3", x.spread(5, 3), 1 << 5 | 1);
        due("28: not yet", x.spread(3, 4), -1);
        due("28: below", x.spread(3, -1), -1);
        due("28: no such cell", x.spread(24, 0), -1);
        due("28: cell below", x.spread(-1, 0), -1);
        x.flip(5, 4);
        due("28: flipped", x.spread(3, 0), 1 << 3 | 1);
        x.flip(3, 4);
        due("28: itself flipped", x.spread(3, 0), 1);
        Checks.laws(x, "keep name 1 = 9");
        x.mend(1, 0);
        due("28: mended", x.spread(4, 3), 0);
        x.step(1);
        due("28: written by a line that reads it not", x.spread(5, 4), 0);
        for (int i = 0; i < 196; i++) x.flip(23, 0);
        due("28: writes of 0 are kept no more", x.spread(3, 0), -1);
        due("28: those of 4 are", x.spread(4, 4) >= 0 ? 1 : 0, 1);
        due("28: a way", spreadByWay(), 1 << next(1) | 1 << 4);
    }

    private static int spreadByWay() {
        MendedWebs x = web("", "let name 0 be 0;let name 1 be length 0");
        chain(x, 0, 1, 2);
        x.step(2);
        return x.spread(next(1), 1);
    }

    private static void promise29() {
        MendedWebs x = web("keep name 0 = 9", "let name 0 be 1;let name 1 be name 0 + 1;pay name 1;let name 2 be name 1 + name 0");
        due("29: no step", x.again(0), -1);
        x.watch(3);
        x.step(4);
        due("29: name 2", x.cell(5, 0), 3);
        due("29: below", x.again(-1), -1);
        due("29: not yet", x.again(4), -1);
        due("29: status", x.status(), -1);
        due("29: without step 0", x.again(0), 3);
        due("29: status then", x.status(), 0);
        due("29: name 0", x.cell(3, 0), 0);
        due("29: name 1", x.cell(4, 0), 1);
        due("29: name 2 anew", x.cell(5, 0), 1);
        due("29: writes", x.all(8), 2);
        due("29: paid stays", x.all(3), 1);
        due("29: out stays", x.out(0), 2);
        due("29: steps stay", x.all(0), 4);
        due("29: cost stays", x.all(6), 4);
        due("29: next stays", x.all(7), 0);
        due("29: seen stays", x.seen(0, 1), 0);
        due("29: of the steps that they were of", x.spread(4, 2), 1 << 4 | 1 << 5);
        due("29: the write of step 1 reads it not", x.spread(4, 1), 0);
        due("29: left out from now on", x.again(1), 2);
        due("29: name 1 is as it was", x.cell(4, 0), 0);
        due("29: name 2 again", x.cell(5, 0), 0);
        due("29: one left out once more", x.again(0), 2);
        againTakesBack();
        againRefused();
        againAmissAnew();
        againAmissKept();
    }

    private static void againTakesBack() {
        MendedWebs x = web("keep name 1 = 7", "let name 0 be 5;let name 2 be name 1;let head 0 be node 0");
        x.flip(4, 3);
        x.step(1);
        x.mend(1, 0);
        x.flip(3, 8);
        x.lots(1000, 5);
        x.step(1);
        x.lots(0, 0);
        x.step(1);
        x.flip(0, 4);
        due("29: without the mend's step", x.again(1), 1);
        due("29: the mend is taken back", x.cell(4, 0), 3);
        due("29: and its mark", x.cell(4, 1), 0);
        due("29: but counted", x.cell(4, 2), 1);
        due("29: the flip, too", x.cell(3, 0), 5);
        due("29: what read it", x.cell(5, 0), 0);
        due("29: lots are counted", x.all(5), 1);
        due("29: done anew", x.cell(0, 0), 0);
        due("29: writes", x.all(8), 3);
        due("29: all from 0 on", x.again(0), 1);
        due("29: also what came ahead of it", x.cell(4, 0), 0);
        // Steps ahead of the latest lines() have no line.
        MendedWebs y = web("", "let name 0 be 1;let name 1 be 2");
        y.step(2);
        Checks.lines(y, "let name 2 be 3");
        y.step(1);
        due("29: one with a line", y.again(0), 1);
        due("29: taken back, not done anew", y.cell(4, 0), 0);
        due("29: done anew by the latest lines", y.cell(5, 0), 3);
        due("29: writes of it", y.all(8), 1);
    }

    private static void againRefused() {
        MendedWebs x = web("", "let head 0 be node 1;let key(head 0) be 4;pay key(head 0)");
        x.step(3);
        due("29: one would be amiss", x.again(0), -3);
        due("29: status", x.status(), -3);
        due("29: all stays", x.cell(0, 0), 1);
        due("29: this, too", x.cell(key(1), 0), 4);
        due("29: writes stay", x.all(8), 2);
        due("29: without step 1", x.again(1), 1);
        MendedWebs p = web("", "let head 0 be node 1;pay key(head 0)");
        p.step(2);
        due("29: a 'pay' may be amiss", p.again(0), 1);
        MendedWebs a = web("", "let name 1 be 1;let key(head 0) be 4");
        a.step(2);
        due("29: amiss as it was", a.again(0), 1);
        MendedWebs y = web("", "let name 0 be 1;pay 1");
        for (int i = 0; i < 4; i++) y.step(50);
        due("29: the latest 200", y.again(0), 199);
        y.step(1);
        due("29: not one of the latest 200", y.again(0), -3);
        due("29: one of them", y.again(1), 199);
        MendedWebs z = web("", "let name 0 be 1");
        z.step(2);
        for (int i = 0; i < 199; i++) z.flip(9, 1);
        due("29: a write of step 0 is kept no more", z.again(0), -3);
        due("29: those of step 1 are", z.again(1), 0);
        due("29: then of step 0 they are not", z.again(0), -3);
    }

    /** Name 1 is 9, 3, 9; with 9 the last line is amiss. */
    private static MendedWebs amissInStep3(String test) {
        MendedWebs x = web("", "let name 1 be 9;let name 1 be 3;let name 1 be 9;let name 0 be name 1 + 5" + test);
        x.step(4);
        due("29: step 3 is amiss", x.all(2), 1);
        return x;
    }

    /** A step that was done anew, and was not amiss then, may not become amiss. */
    private static void againAmissAnew() {
        MendedWebs x = amissInStep3("");
        due("29: not amiss anew", x.again(2), 1);
        due("29: written anew", x.cell(3, 0), 8);
        due("29: amiss is counted still", x.all(2), 1);
        due("29: amiss that was not anew", x.again(1), -3);
        due("29: status", x.status(), -3);
        due("29: name 0 stays", x.cell(3, 0), 8);
        due("29: name 1 stays", x.cell(4, 0), 3);
        due("29: writes stay", x.all(8), 3);
        due("29: what is counted stays", x.all(2), 1);
        due("29: with 3 it goes", x.again(0), 2);
        due("29: step 1 was not left out", x.cell(3, 0), 8);
        MendedWebs p = amissInStep3(" if name 1 > 4");
        due("29: passed anew", p.again(2), 1);
        due("29: not written", p.cell(3, 0), 0);
        due("29: amiss that was passed anew", p.again(1), -3);
        MendedWebs a = web("", "let name 2 be 1;let name 2 be 2;let key(head 0) be 4");
        a.step(3);
        due("29: amiss anew as it was", a.again(1), 1);
        due("29: amiss anew once more", a.again(0), 1);
    }

    /** A refused again, an image keep whether a step was amiss. */
    private static void againAmissKept() {
        MendedWebs x = web("", "let name 1 be 3;let name 1 be 9;let name 0 be name 1 + 5;let name 2 be name 1 - 4");
        x.step(4);
        due("29: step 2 would go, step 3 be amiss", x.again(1), -3);
        due("29: step 2 is amiss still", x.again(0), 3);
        MendedWebs y = amissInStep3("");
        y.image(0);
        due("29: anew", y.again(2), 1);
        y.image(1);
        y.back(0);
        due("29: back it is amiss", y.again(1), 2);
        y.back(1);
        due("29: back it is not amiss", y.again(1), -3);
    }

    private static void promise30() {
        MendedWebs x = new MendedWebs();
        due("30: no lines", x.putIn(1, 0), -1);
        Checks.lines(x, "pay name 0");
        int[] one = {162, 0, 9, 0};
        for (int w = 0; w < 4; w++) due("30: what " + w, x.putIn(1, w), one[w]);
        int[][] wrong = {{0, 0}, {25, 0}, {-1, 0}, {1, 4}, {1, -1}};
        for (int[] w : wrong) due("30: wrong " + w[0] + " " + w[1], x.putIn(w[0], w[1]), -1);
        Checks.laws(x, "keep name 0 + name 1 < 5");
        // Names 0: 4 of 9 hold; names 1: 4 of 9 hold and pay the same.
        due("30: well", x.putIn(24, 0), 162 - 5);
        due("30: lost", x.putIn(24, 2), 4);
        due("30: ended", x.putIn(24, 3), 10);
        Checks.laws(x, "keep name 2 = 3");
        x.mend(1, 0);
        Checks.lines(x, "let name 1 be name 2 if name 0 > 0;pay name 1");
        // The test reads name 0, name 2 is read for all: a line passed leaves name 1 sure, else it is marked.
        due("30: held", x.putIn(2, 1), 9);
        due("30: lost by name 1", x.putIn(2, 2), 9);
        due("30: ended by name 2", x.putIn(2, 3), 9);
        due("30: the rest went well", x.putIn(2, 0), 171 - 27);
        due("30: nothing was changed", x.all(0), 0);
        due("30: nor written", x.all(8), 1);
        due("30: nor paid", x.all(3), 0);
        due("30: from now", x.step(1), 1);
        due("30: line 1 is next", x.putIn(1, 2), 9);
    }

    private static void promise31() {
        MendedWebs x = new MendedWebs();
        due("31: 0", x.image(0), 0);
        due("31: 1", x.image(1), 0);
        due("31: 2", x.image(2), -1);
        due("31: status", x.status(), -1);
        due("31: -1", x.image(-1), -1);
        x.flip(0, 3);
        due("31: kept anew", x.image(0), 0);
        x.flip(0, 4);
        x.back(0);
        due("31: the latest", x.cell(0, 0), 3);
        x.back(1);
        due("31: the other", x.cell(0, 0), NOTHING);
    }

    private static void promise32() {
        MendedWebs x = web("keep name 0 = 9", "let name 0 be 1;pay name 0;let name 0 be 10;pay 2 if 1 = 2");
        due("32: not kept", x.back(0), -2);
        due("32: status", x.status(), -2);
        due("32: no such", x.back(2), -1);
        due("32: below", x.back(-1), -1);
        x.watch(3);
        x.lots(300, 9);
        x.step(5);
        x.copy();
        x.price(1, 7);
        x.weighty(12);
        x.routine(0, 1);
        x.mend(1, 0);
        x.image(1);
        int[] before = picture(x);
        Checks.laws(x, "list 0;list 1");
        Checks.lines(x, "pay 5");
        x.lots(1000, 3);
        x.watch(1);
        x.step(20);
        x.sure(3);
        x.copy();
        x.price(1, 1);
        x.weighty(1);
        Checks.laws(x, "list 9");
        Checks.text(x, "pay");
        due("32: back", x.back(1), 0);
        due("32: status then", x.status(), 0);
        due("32: fault stays", x.fault(), 5);
        due("32: the tape stays", x.end(3), 3);
        due("32: not more", x.end(4), -1);
        same(before, picture(x), "32: as it was");
        x.step(7);
        int[] later = picture(x);
        due("32: back once more", x.back(1), 0);
        same(before, picture(x), "32: images stay");
        x.step(7);
        same(later, picture(x), "32: goes on alike");
        due("32: watch", x.watch(0), 3);
        due("32: weighty", x.weighty(0), 12);
        due("32: price", x.price(1, 7), 7);
    }

    private static void same(int[] want, int[] got, String what) {
        for (int i = 0; i < want.length; i++) due(what + " " + i, got[i], want[i]);
    }

    private static int[] picture(MendedWebs x) {
        int[] p = new int[200];
        int n = 0;
        for (int c = 0; c < 24; c++) for (int w = 0; w < 4; w++) p[n++] = x.cell(c, w);
        for (int w = 0; w <= 8; w++) p[n++] = x.all(w);
        for (int l = 0; l < 2; l++) for (int w = 0; w < 3; w++) p[n++] = x.seen(l, w);
        for (int l = 0; l < 4; l++) p[n++] = x.bears(l);
        for (int i = 0; i < 5; i++) p[n++] = x.out(i);
        for (int w = 0; w < 3; w++) p[n++] = x.least(2, w);
        for (int w = 0; w < 4; w++) p[n++] = x.putIn(5, w);
        for (int c = 0; c < 24; c++) p[n++] = x.spread(c, 0);
        p[n++] = x.holds(0);
        p[n++] = x.holds(1);
        return p;
    }

    private static void promise33() {
        MendedWebs x = new MendedWebs();
        due("33: ahead of any", x.status(), 0);
        x.feed(0, 0, 0, 0, 0);
        x.end(99);
        x.cell(99, 0);
        x.least(9, 9);
        x.putIn(0, 0);
        x.spread(0, 0);
        due("33: of no other call", x.status(), 0);
        x.end(0);
        x.step(1);
        due("33: -3", x.status(), -3);
        x.copy();
        x.end(0);
        x.fault();
        due("33: those stay out", x.status(), -3);
        x.row(0);
        due("33: row", x.status(), -6);
        x.row(30);
        due("33: row's -1", x.status(), -1);
        x.flip(0, 2);
        due("33: flip", x.status(), 0);
        x.routine(0, 0);
        due("33: routine", x.status(), -2);
        x.lots(0, 0);
        due("33: lots", x.status(), 0);
        x.back(0);
        due("33: back", x.status(), -2);
        x.watch(2);
        due("33: watch", x.status(), 0);
        x.sure(0);
        due("33: sure", x.status(), -3);
        x.price(0, 1);
        due("33: price", x.status(), 0);
        x.again(0);
        due("33: again", x.status(), -1);
        x.weighty(0);
        due("33: weighty", x.status(), 0);
        x.mend(1, 0);
        due("33: mend", x.status(), -3);
        x.image(0);
        due("33: image", x.status(), 0);
        x.laws();
        due("33: laws", x.status(), -6);
        x.back(0);
        due("33: back, fine", x.status(), 0);
        x.lines();
        due("33: lines", x.status(), -6);
    }

    public static void main(String[] args) {
        promise1();
        promise2();
        promise3();
        promise4();
        promise5();
        promise6();
        promise7();
        promise8();
        promise9();
        promise10();
        promise11();
        promise12();
        promise13();
        promise14();
        promise15();
        promise16();
        promise17();
        promise18();
        promise19();
        promise20();
        promise21();
        promise22();
        promise23();
        promise24();
        promise25();
        promise26();
        promise27();
        promise28();
        promise29();
        promise30();
        promise31();
        promise32();
        promise33();
        Checks.close();
    }
}
