/** Terms I and II, promises 1 to 9: each sentence that names an edge has a test of its own. */
public final class EdgesOfTextsTest {
    private static final int NOTHING = -1;
    private static final int WITHOUT = -1000;
    private static final int[] FAR = {Integer.MIN_VALUE, Integer.MIN_VALUE + 1, -1001, -1000, -2, 1 << 24, Integer.MAX_VALUE};

    private EdgesOfTextsTest() { }

    private static void says(String words) {
        Checks.says(words);
    }

    private static void due(String what, long got, long want) {
        Checks.due(what, got, want);
    }

    private static String times(String what, int n) {
        return Checks.times(what, n);
    }

    private static boolean isNumber(int cell) {
        return cell >= 3 && (cell < 6 || cell % 3 == 2);
    }

    /** A text of laws is taken, as so many. */
    private static void laws(String text, int many) {
        MendedWebs x = new MendedWebs();
        due("laws '" + text + "'", Checks.laws(x, text), many);
        due("fault of '" + text + "'", x.fault(), MendedWebs.NONE);
        due("status of '" + text + "'", x.status(), 0);
    }

    private static void lines(String text, int many) {
        MendedWebs x = new MendedWebs();
        due("lines '" + text + "'", Checks.lines(x, text), many);
        due("fault of '" + text + "'", x.fault(), MendedWebs.NONE);
        due("status of '" + text + "'", x.status(), 0);
    }

    /** A text of laws is refused, with its fault here. */
    private static void badLaws(String text, int fault) {
        MendedWebs x = new MendedWebs();
        due("laws '" + text + "'", Checks.laws(x, text), -6);
        due("fault of '" + text + "'", x.fault(), fault);
        due("status of '" + text + "'", x.status(), -6);
    }

    private static void badLines(String text, int fault) {
        MendedWebs x = new MendedWebs();
        due("lines '" + text + "'", Checks.lines(x, text), -6);
        due("fault of '" + text + "'", x.fault(), fault);
        due("status of '" + text + "'", x.status(), -6);
    }

    // ---- Terms I

    private static void cells() {
        says("I: CELLS 0 .. 23");
        MendedWebs x = Checks.web("", "pay 1");
        x.step(1);
        for (int c = 0; c < 24; c++) {
            due("cell " + c, x.cell(c, 1), 0);
            due("spread " + c, x.spread(c, 0), 1 << c);
            due("flip " + c, x.flip(c, 1), isNumber(c) ? 0 : NOTHING);
            due("sure " + c, x.sure(c), -3);
            due("row " + c, x.row(c), -6);
        }
        int[] wrong = {-1, 24, 25, 32, Integer.MIN_VALUE, Integer.MAX_VALUE};
        for (int c : wrong) {
            due("cell " + c, x.cell(c, 0), WITHOUT);
            due("flip " + c, x.flip(c, 1), -1);
            due("sure " + c, x.sure(c), -1);
            due("spread " + c, x.spread(c, 0), -1);
            due("row " + c, x.row(c), -1);
        }
    }

    private static void whichCell() {
        says("I: HEADS are CELLS 0 .. 2, NAMES CELLS 3 .. 5, of NODES NEXT, BACK, KEY CELLS 6, 7, 8 and 3 times the NODE");
        String[] kinds = {"next", "back", "key"};
        for (int cell = 0; cell < 24; cell++) {
            String place = cell < 3 ? "head " + cell : cell < 6 ? "name " + (cell - 3)
                : kinds[cell % 3] + "(node " + (cell - 6) / 3 + ")";
            MendedWebs x = Checks.web("", "let " + place + " be " + (isNumber(cell) ? "4" : "node 4"));
            x.step(1);
            for (int c = 0; c < 24; c++)
                due("'" + place + "' in cell " + c, x.cell(c, 0), c == cell ? 4 : isNumber(c) ? 0 : NOTHING);
        }
    }

    private static void nodesOrNothing() {
        says("I: HEADS, NEXT, BACK are a NODE or NOTHING (-1; so at first)");
        for (int c = 0; c < 24; c++) {
            if (isNumber(c)) continue;
            MendedWebs x = new MendedWebs();
            due("at first " + c, x.cell(c, 0), NOTHING);
            for (int v = -1; v <= 5; v++) {
                due("flip " + c + " to " + v, x.flip(c, v), Math.max(NOTHING, v - 1));
                due("it is", x.cell(c, 0), v);
            }
            int[] wrong = {-2, 6, 9, 255, Integer.MIN_VALUE, Integer.MAX_VALUE};
            for (int v : wrong) due("flip " + c + " to " + v, x.flip(c, v), -1);
            due("it stays", x.cell(c, 0), 5);
        }
    }

    private static void numbers() {
        says("I: NAMES and KEYS are NUMBERS 0 .. 9 (0 at first)");
        for (int c = 0; c < 24; c++) {
            if (!isNumber(c)) continue;
            MendedWebs x = new MendedWebs();
            due("at first " + c, x.cell(c, 0), 0);
            for (int v = 0; v <= 9; v++) {
                due("flip " + c + " to " + v, x.flip(c, v), Math.max(0, v - 1));
                due("it is", x.cell(c, 0), v);
            }
            int[] wrong = {-1, -2, 10, 255, Integer.MIN_VALUE, Integer.MAX_VALUE};
            for (int v : wrong) {
                due("flip " + c + " to " + v, x.flip(c, v), -1);
                due("status", x.status(), -1);
            }
            due("it stays", x.cell(c, 0), 9);
        }
    }

    private static void noneMarked() {
        says("I: A CELL may be MARKED (none at first)");
        MendedWebs x = new MendedWebs();
        for (int c = 0; c < 24; c++) due("mark of " + c, x.cell(c, 1), 0);
    }

    /** Head 0 leads to the first of these nodes, each to the next one, the last to where it is told. */
    private static MendedWebs chain(int behind, int... nodes) {
        MendedWebs x = new MendedWebs();
        x.flip(0, nodes[0]);
        for (int i = 0; i < nodes.length; i++) x.flip(6 + 3 * nodes[i], i + 1 < nodes.length ? nodes[i + 1] : behind);
        return x;
    }

    private static void wayIs(String what, MendedWebs x, int... nodes) {
        for (int i = 0; i < nodes.length; i++) due(what + ", way " + i, x.way(0, i), nodes[i]);
        due(what + ", behind its way", x.way(0, nodes.length), MendedWebs.NONE);
        Checks.laws(x, "keep length 0 = " + nodes.length + ";list 0");
        due(what + ", length", x.holds(0), 1);
    }

    private static void ways() {
        says("I: WAY of a HEAD: its NODE, that one's NEXT, and so on, to NOTHING or to a NODE that is on it already");
        MendedWebs x = new MendedWebs();
        wayIs("an empty way", x);
        due("it ends at nothing", x.holds(1), 1);
        x = chain(NOTHING, 5);
        wayIs("one node", x, 5);
        x = chain(5, 5);
        wayIs("a node that leads to itself", x, 5);
        due("it ends at no nothing", x.holds(1), 0);
        x = chain(0, 2, 0, 4);
        wayIs("back to the middle", x, 2, 0, 4);
        due("nor this", x.holds(1), 0);
        x = chain(NOTHING, 5, 4, 3, 2, 1, 0);
        wayIs("all six", x, 5, 4, 3, 2, 1, 0);
        due("that ends", x.holds(1), 1);
        x = chain(5, 5, 4, 3, 2, 1, 0);
        wayIs("all six and back to the first", x, 5, 4, 3, 2, 1, 0);
        due("that does not end", x.holds(1), 0);
        x = chain(0, 5, 4, 3, 2, 1, 0);
        wayIs("all six, the last leads to itself", x, 5, 4, 3, 2, 1, 0);
        due("nor does that", x.holds(1), 0);
    }

    private static void orderOfRefusals() {
        says("I: REFUSED by the first of these in that order");
        MendedWebs x = new MendedWebs();
        due("row: -1 ahead of -6 (empty)", x.row(24), -1);
        due("row: -1 ahead of -6 (too many)", Checks.row(x, -1, new int[30]), -1);
        due("step: -1 ahead of -3", x.step(0), -1);
        due("step: -1 ahead of -3, too", x.step(65), -1);
        due("mend: -1 ahead of -3", x.mend(0, 0), -1);
        due("sure: -1 ahead of -3", x.sure(24), -1);
        due("back: -1 ahead of -2", x.back(2), -1);
        due("routine: -2 ahead of -3", x.routine(1, 0), -2);
        Checks.lines(x, "pay 1;pay 2");
        due("routine: -2 ahead of -3, from is not there", x.routine(2, 1), -2);
        due("routine: -2 ahead of -3, to is not there", x.routine(1, -1), -2);
        for (int i = 0; i < 4; i++) x.step(51);
        due("again: -1 where it was not, though no write is lost", x.again(204), -1);
        due("again: -3 where it was", x.again(3), -3);
    }

    // ---- Terms II: the tape, tokens

    private static void noneAtFirst() {
        says("II: Two TEXTS, of LAWS and of LINES (none at first)");
        MendedWebs x = new MendedWebs();
        due("holds", x.holds(0), -1);
        due("asked", x.asked(0), -1);
        due("seen", x.seen(0, 0), -1);
        due("bears", x.bears(0), -1);
        due("routine", x.routine(0, 0), -2);
        due("step", x.step(1), -3);
        due("putIn", x.putIn(1, 0), -1);
    }

    private static void tapeOf400() {
        says("II: a TAPE of at most 400 bytes");
        String text = "list 0" + times(" ", 387) + ";list 1";
        MendedWebs x = new MendedWebs();
        due("a text of 400", text.length(), 400);
        due("is taken", Checks.laws(x, text), 2);
        Checks.text(x, text.substring(0, 399) + "3");
        due("its last byte counts", x.laws(), -6);
        due("fault at 399", x.fault(), 399);
        Checks.text(x, times(" ", 400));
        due("400 blanks", x.laws(), -6);
        due("fault at 400", x.fault(), 400);
        Checks.text(x, times("x", 400));
        x.laws();
        due("one token of 400", x.fault(), 0);
        Checks.text(x, "keep " + times("0", 391) + "1<2;");
        due("a number of 392 digits", x.end(399), 399);
        due("is 1", x.laws(), 1);
        Checks.text(x, times(";", 400));
        x.laws();
        due("400 tokens", x.fault(), 0);
        Checks.text(x, "pay " + times("+", 396));
        x.lines();
        due("397 tokens", x.fault(), 4);
    }

    private static void letters() {
        says("II: TOKENS: longest rows of letters a .. z");
        badLaws("listz 0", 0);
        badLaws("lista 0", 0);
        badLaws("alist 0", 0);
        badLaws("zlist 0", 0);
        badLaws("listlist 0", 0);
        badLaws("lis t 0", 0);
        badLaws("list`0", 4);
        badLaws("list{0", 4);
        badLaws("lisT 0", 0);
        badLaws("LIST 0", 0);
        badLaws("list\u00e1 0", 4);
        badLaws("keepname 0 = 1", 0);
        badLines("payname 0", 0);
        badLines("let headhead 0 be nothing", 4);
        laws("list 0", 1);
    }

    private static void digits() {
        says("II: TOKENS: longest rows of digits");
        laws("keep 10=10", 1);
        laws("keep 09=9", 1);
        badLaws("keep 1 0=10", 7);
        badLaws("list 01 2", 8);
        badLaws("list 0/", 6);
        badLaws("list 0:", 6);
        badLaws("list /", 5);
        badLaws("list :", 5);
        badLaws("apart 00", 8);
        laws("apart 0 0", 1);
        badLaws("keep 1 = 2\u00b2", 10);
    }

    private static void singleBytes() {
        says("II: TOKENS: single other bytes");
        badLaws("keep 1 == 2", 8);
        badLaws("keep 1 <> 2", 8);
        badLaws("keep 1 ++ 2 = 3", 8);
        laws("keep((1<2))", 1);
        laws("keep[[1]]=1", 1);
        for (int b = 0; b < 256; b++) {
            boolean word = b >= 'a' && b <= 'z' || b >= '0' && b <= '9' || b == ' ' || b == ';';
            if (!word) badLaws("list 0" + (char) b, 6);
        }
    }

    private static void blanks() {
        says("II: any blanks (32) between");
        laws("list0", 1);
        laws("   list   0   ", 1);
        laws(" list 0 ; list 1 ", 2);
        laws("keep1=1and2=2", 1);
        laws("keep 1 = 1 and 2 = 2", 1);
        lines("let next(node0)be node1if name0<1", 1);
        lines(" let next ( node 0 ) be node 1 if name 0 < 1 ", 1);
        for (char c : new char[] {0, 9, 10, 13, 31, 33, 127, 160, 255}) badLaws("list" + c + "0", 4);
    }

    private static void twelveRows() {
        says("II: of 12 at most (FAULT at the 13th's first TOKEN)");
        laws("list 0" + times(";list 0", 11), 12);
        lines("pay 1" + times(";pay 1", 11), 12);
        badLaws("list 0" + times(";list 0", 12), 84);
        badLines("pay 1" + times(";pay 1", 12), 72);
        badLaws("list 0" + times(";list 0", 11) + ";   list 0", 87);
        badLaws("list 0" + times(";list 0", 11) + ";", 84);
        badLaws("list 0" + times(";list 0", 11) + ";  ", 86);
        badLaws("list 0" + times(";list 0", 11) + ";;", 84);
        badLaws("list 0" + times(";list 0", 11) + "; x", 85);
        badLaws("list 0" + times(";list 0", 10) + ";list 3;list 0", 82);
        laws("list 0", 1);
    }

    private static void rowsBetween() {
        says("II: Each is a row with \";\" between");
        badLaws(";", 0);
        badLaws(";list 0", 0);
        badLaws("list 0;", 7);
        badLaws("list 0;;list 0", 7);
        badLaws("list 0 list 0", 7);
        badLines("pay 1;", 6);
        badLines(";pay 1", 0);
        badLines("pay 1;;pay 1", 6);
        badLines("pay 1 pay 1", 6);
        laws("list 0;list 0", 2);
    }

    // ---- Terms II: the grammar

    private static void numbersOfNodes() {
        says("II: NODE: \"node\" NUMBER (0 .. 5)");
        for (int n = 0; n <= 5; n++) lines("let head 0 be node " + n, 1);
        badLines("let head 0 be node 6", 19);
        badLines("let head 0 be node 9", 19);
        badLines("let head 0 be node 10", 19);
        badLines("let head 0 be node 4294967296", 19);
        badLines("let head 0 be node -1", 19);
        badLines("let head 0 be node", 18);
        badLines("let next(node 6) be nothing", 14);
        lines("let next(node 5) be nothing", 1);
    }

    private static void numbersOfHeadsAndNames() {
        says("II: HEAD, NAME: a NUMBER 0 .. 2");
        String[] words = {"list", "twin", "rise"};
        for (String w : words) {
            for (int h = 0; h <= 2; h++) laws(w + " " + h, 1);
            badLaws(w + " 3", 5);
            badLaws(w + " 10", 5);
            badLaws(w + " 4294967296", 5);
            badLaws(w + " -1", 5);
        }
        laws("apart 2 2", 1);
        badLaws("apart 3 0", 6);
        badLaws("apart 0 3", 8);
        laws("keep name 2 = length 2 + total 2", 1);
        badLaws("keep name 3 = 0", 10);
        badLaws("keep length 3 = 0", 12);
        badLaws("keep total 3 = 0", 11);
        lines("let head 2 be head 2", 1);
        badLines("let head 3 be nothing", 9);
        badLines("let head 0 be head 3", 19);
        lines("let name 2 be name 2", 1);
        badLines("let name 3 be 1", 9);
        badLines("let name 0 be name 3", 19);
    }

    private static void numbersInSums() {
        says("II: PART: NUMBER (0 .. 99)");
        laws("keep 0 = 99", 1);
        laws("keep 000 = 0099", 1);
        String[] more = {"100", "0100", "999", "256", "2147483648", "4294967296", "4294967395", "18446744073709551616", "99999999999999999999"};
        for (String n : more) {
            badLaws("keep " + n + " = 1", 5);
            badLines("pay " + n, 4);
        }
        badLaws("keep -1 = 1", 5);
        lines("pay 99", 1);
    }

    private static void keyInALine() {
        says("II: \"key\" \"(\" NODE \")\" (in a LINE alone: else FAULT at it)");
        badLaws("keep key(node 0) = 1", 5);
        badLaws("keep 1 = key(node 0)", 9);
        badLaws("keep 1 = [2 + key(node 0)]", 14);
        badLaws("keep not (1 = 2 or key(node 0) = 1)", 19);
        lines("pay key(node 0) if key(node 0) = key(head 0)", 1);
        lines("let key(node 0) be [key(node 1)]", 1);
        lines("let name 0 be 1 + key(next(node 0)) - key(back(node 0))", 1);
    }

    private static void eightBrackets() {
        says("II: 8 brackets of all kinds within one another (FAULT at the 9th)");
        laws("keep " + times("[", 8) + "1" + times("]", 8) + "=1", 1);
        badLaws("keep " + times("[", 9) + "1" + times("]", 9) + "=1", 13);
        laws("keep " + times("(", 8) + "1=1" + times(")", 8), 1);
        badLaws("keep " + times("(", 9) + "1=1" + times(")", 9), 13);
        laws("keep " + times("not(", 8) + "1=1" + times(")", 8), 1);
        badLaws("keep " + times("not(", 9) + "1=1" + times(")", 9), 5 + 8 * 4 + 3);
        laws("keep ((((1=[[[[2]]]]))))", 1);
        badLaws("keep ((((1=[[[[[2]]]]]))))", 15);
        lines("let head 0 be " + times("back(", 8) + "head 0" + times(")", 8), 1);
        badLines("let head 0 be " + times("back(", 9) + "head 0" + times(")", 9), 14 + 8 * 5 + 4);
        lines("let " + times("next(", 8) + "head 0" + times(")", 8) + "be nothing", 1);
        badLines("let " + times("next(", 9) + "head 0" + times(")", 9) + "be nothing", 4 + 8 * 5 + 4);
        lines("pay [[[[[[key(next(node 0))]]]]]]", 1);
        badLines("pay [[[[[[key(next(back(node 0)))]]]]]]", 23);
        badLines("pay [[[[[[[[key(node 0)]]]]]]]]", 15);
        lines("pay 1 if (((((([[1]]=1))))))", 1);
        badLines("pay 1 if (((((([[[1]]]=1))))))", 17);
    }

    private static void bracketsSideBySide() {
        says("II: 8 brackets within one another: not side by side, nor of another row");
        String eight = times("[", 8) + "1" + times("]", 8);
        laws("keep " + eight + "=" + eight, 1);
        laws("keep [1]=[1] and ([1]=[1]) and [1]=[1] and ([1]=[1])", 1);
        laws("keep " + eight + "=1;keep " + eight + "=1", 2);
        lines("let next(next(next(next(node 0)))) be next(next(next(next(node 0)))) if ((((1=1))))", 1);
        badLaws("keep " + eight + "=[" + eight + "]", 5 + 18 + 8);
        MendedWebs x = new MendedWebs();
        due("brackets left open in a refused text", Checks.laws(x, "keep [[[(1"), -6);
        due("are not of the next text", Checks.laws(x, "keep " + eight + "=1"), 1);
        due("tokens of a refused text", Checks.laws(x, "keep" + times(" not", 60)), -6);
        due("neither", Checks.laws(x, "keep 1=1" + times("or 1=1", 14)), 1);
        badLaws("keep " + times("(", 8) + "1=1)or(1=1" + times(")", 9), 5 + 8 + 3 + 1 + 2 + 4 + 8);
    }

    private static void sixtyTokens() {
        says("II: 60 TOKENS in a LAW or a LINE at most (FAULT at the 61st)");
        String sixty = "pay 1" + times("+1", 29);
        lines(sixty, 1);
        lines(sixty + "  ", 1);
        badLines(sixty + "+", 63);
        badLines(sixty + " + 1", 64);
        badLines(sixty + " x", 64);
        badLines("pay 1" + times("+1", 28) + "if 1=1", 5 + 56 + 4);
        String law = "keep 1=1" + times("or 1=1", 14);
        laws(law, 1);
        badLaws(law + "or 1=1", law.length());
        badLaws("keep not 1=1" + times("or 1=1", 14), 12 + 14 * 6 - 1);
        laws("keep" + times(" not", 56) + " 1=1", 1);
        badLaws("keep" + times(" not", 57) + " 1=1", 4 + 57 * 4 + 3);
        badLaws("keep" + times(" not", 60), 4 + 59 * 4 + 1);
        badLaws("keep" + times(" not", 59), 4 + 59 * 4);
        badLaws("keep" + times(" not", 59) + ";", 4 + 59 * 4);
    }

    private static void sixtyTokensOfEachRow() {
        says("II: 60 TOKENS in a LAW or a LINE: those between are in none, each row has its own");
        String sixty = "pay 1" + times("+1", 29);
        lines(sixty + ";" + sixty + ";pay 1", 3);
        badLines(sixty + ";" + sixty + "+1;pay 1", 64 + 63);
        String law = "keep 1=1" + times("or 1=1", 14);
        laws(law + ";" + law + ";" + law, 3);
        badLaws(law + ";" + law + "or 1=1", 2 * law.length() + 1);
    }

    private static void faults() {
        says("II: FAULT: the first TOKEN that can't go on there");
        badLaws("list 3;list 3", 5);
        badLaws("list x;;;", 5);
        badLaws("keep 1 = 2 or", 13);
        badLaws("keep 1 + = 2", 9);
        badLaws("keep not", 8);
        badLaws("keep ()", 6);
        badLaws("keep []", 6);
        badLaws("keep (1 = 1", 11);
        badLaws("keep (1 = 1]", 11);
        badLaws("keep [1) = 1", 7);
        badLaws("keep 1 = 1)", 10);
        badLaws("keep 1]", 6);
        badLaws("keep 1 and 2", 7);
        badLaws("keep (1)", 7);
        badLaws("keep [1 = 1]", 8);
        badLaws("keep 1 = 1 = 1", 11);
        badLaws("keep 1 = 1 if 1 = 1", 11);
        badLaws("list 0 if 1 = 1", 7);
        badLaws("keep 1 + (1) = 2", 9);
        badLaws("keep 1 = (1)", 9);
        badLines("pay (1)", 4);
        badLines("pay 1 + (1)", 8);
        badLaws("keep 1 = not 1 = 1", 9);
        badLaws("keep length(0) = 1", 11);
        badLaws("keep node 0 = 1", 5);
        badLaws("keep nothing = 1", 5);
        badLaws("be", 0);
        badLaws("let name 0 be 1", 0);
        badLines("list 0", 0);
        badLines("let key node 0 be 1", 8);
        badLines("let next() be nothing", 9);
        badLines("let next(name 0) be nothing", 9);
        badLines("let next(node 0] be nothing", 15);
        badLines("let next(node 0)", 16);
        badLines("let head 0 = node 1", 11);
        badLines("let head 0 be name 0", 14);
        badLines("let head 0 be key(node 0)", 14);
        badLines("let head 0 be [node 0]", 14);
        badLines("let head 0 be (node 0)", 14);
        badLines("let name 0 be node 0", 14);
        badLines("let name 0 be next(node 0)", 14);
        badLines("let key(node 0) be nothing", 19);
        badLines("let back(node 0) be 1", 20);
        badLines("let 0 be 1", 4);
        badLines("pay node 0", 4);
        badLines("pay if 1 = 1", 4);
        badLines("pay 1 = 1", 6);
        badLines("pay 1 if", 8);
        badLines("pay 1 if 1", 10);
        badLines("pay 1 if 1 = 1 if 1 = 1", 15);
        badLines("if 1 = 1", 0);
    }

    private static void faultAtTheEnd() {
        says("II: FAULT: the end's: the TEXT's length");
        badLaws("", 0);
        badLaws(" ", 1);
        badLaws("list", 4);
        badLaws("list   ", 7);
        badLaws("keep 1 = 1 and   ", 17);
        badLaws("list 0;", 7);
        badLaws("list 0;    ", 11);
        badLines("", 0);
        badLines("let", 3);
        badLines("let name 0 be ", 14);
        badLines("pay 1; ", 7);
        badLaws("keep 1" + times(" ", 394), 400);
    }

    // ---- Terms II: laws

    private static int holds(MendedWebs x, String law) {
        Checks.laws(x, law);
        return x.holds(0);
    }

    private static void backs(MendedWebs x, int... backs) {
        for (int n = 0; n < backs.length; n++) x.flip(7 + 3 * n, backs[n]);
    }

    private static void keys(MendedWebs x, int... keys) {
        for (int n = 0; n < keys.length; n++) x.flip(8 + 3 * n, keys[n]);
    }

    private static void testsAndSums() {
        says("II: TEST: BOTH {\"or\" BOTH}. BOTH: PLAIN {\"and\" PLAIN}. PLAIN: \"not\" PLAIN | \"(\" TEST \")\" | SUM ..");
        MendedWebs x = new MendedWebs();
        // Each T is so, each F is not.
        String[] so = {"T", "not F", "not not T", "not not not F", "T and T", "T or F", "F or T", "F or F or T", "T and T and T",
            "T or T and F", "F and F or T", "F and T or T", "T or F and F", "T and F or T", "F or T and T", "not F and T", "not F or F",
            "not T or T", "F or not F", "T and not F", "not (T and F)", "not (F or F)", "(T or F) and T", "T and (F or T)", "((T))",
            "not (not (T))", "not T and F or T", "not F and not F", "not (T) or T"};
        String[] notSo = {"F", "not T", "not not F", "T and F", "F and T", "F or F", "T and T and F", "F and T and T", "(T or T) and F",
            "F and (F or T)", "F and (T or T)", "not F and F", "not T and F", "not T and T", "not T or F", "not (T or F)", "not (T and T)",
            "F or T and F", "F or F and T", "T and F or F", "not (F) and F", "(not F) and F", "not not F and T", "not F and F or F"};
        for (String test : so) due("'" + test + "'", holds(x, "keep " + truths(test)), 1);
        for (String test : notSo) due("'" + test + "'", holds(x, "keep " + truths(test)), 0);
        says("II: SUM: PART {(\"+\" | \"-\") PART}; SUM (\"<\" | \">\" | \"=\") SUM");
        String[] sums = {"5 - 3 - 1 = 1", "5 - [3 - 1] = 3", "5 - 3 + 1 = 3", "5 - [3 + 1] = 1", "5 + 3 - 1 = 7", "0 - 1 < 0", "1 - 2 + 1 = 0",
            "9 = 10 - 1", "1 + 1 > 1", "1 < 1 + 1", "2 > 1", "1 < 2", "99 + 99 = 198", "[[1]] = [1]", "3 - [2 - [1 - 5]] = 0 - 3"};
        String[] none = {"1 < 1", "1 > 1", "2 < 1", "1 > 2", "1 = 2", "2 = 1", "0 - 1 > 0", "5 - 3 - 1 = 3", "0 < 0 - 1"};
        for (String test : sums) due("'" + test + "'", holds(x, "keep " + test), 1);
        for (String test : none) due("'" + test + "'", holds(x, "keep " + test), 0);
        for (String test : so) due("a line's '" + test + "'", paidIf(truths(test)), 1);
        for (String test : notSo) due("a line's '" + test + "'", paidIf(truths(test)), 0);
    }

    private static String truths(String test) {
        return test.replace("T", "1 = 1").replace("F", "1 = 2");
    }

    private static int paidIf(String test) {
        MendedWebs x = Checks.web("", "pay 1 if " + test);
        x.step(1);
        return x.all(3);
    }

    private static void lengthAndTotal() {
        says("II: length: how many NODES are on the WAY; total: their KEYS together");
        MendedWebs x = new MendedWebs();
        keys(x, 9, 9, 9, 9, 9, 9);
        due("an empty way has none", holds(x, "keep length 0 = 0 and total 0 = 0"), 1);
        x.flip(0, 3);
        due("one", holds(x, "keep length 0 = 1 and total 0 = 9"), 1);
        x.flip(15, 3);
        due("on a ring each counts once", holds(x, "keep length 0 = 1 and total 0 = 9"), 1);
        x = chain(2, 0, 1, 2, 3, 4, 5);
        keys(x, 9, 9, 9, 9, 9, 9);
        due("six, 54", holds(x, "keep length 0 = 6 and total 0 = 54"), 1);
        due("of its own head alone", holds(x, "keep length 1 + length 2 + total 1 + total 2 = 0"), 1);
        due("below 0", holds(x, "keep 0 - total 0 - total 0 + 99 < 0 and 0 - length 0 < 0"), 1);
        due("above 99", holds(x, "keep total 0 + total 0 > 99"), 1);
    }

    private static void listLaw() {
        says("II: \"list\": the WAY ends at NOTHING");
        due("empty", holds(new MendedWebs(), "list 0"), 1);
        due("one", holds(chain(NOTHING, 0), "list 0"), 1);
        due("six", holds(chain(NOTHING, 0, 1, 2, 3, 4, 5), "list 0"), 1);
        due("a ring of one", holds(chain(0, 0), "list 0"), 0);
        due("a ring of six", holds(chain(0, 0, 1, 2, 3, 4, 5), "list 0"), 0);
        due("the sixth leads to itself", holds(chain(5, 0, 1, 2, 3, 4, 5), "list 0"), 0);
        due("another head's way", holds(chain(0, 0), "list 1"), 1);
    }

    private static void twinLaw() {
        says("II: \"twin\": BACK of the first NODE on the WAY is NOTHING, of each other one the NODE ahead of it");
        MendedWebs x = new MendedWebs();
        backs(x, 5, 4, 3, 2, 1, 0);
        due("empty", holds(x, "twin 0"), 1);
        x = chain(NOTHING, 2);
        due("the first's is nothing", holds(x, "twin 0"), 1);
        x.flip(13, 2);
        due("the first's is a node", holds(x, "twin 0"), 0);
        x = chain(NOTHING, 0, 1, 2);
        backs(x, -1, 0, 1);
        due("each the one ahead", holds(x, "twin 0"), 1);
        backs(x, -1, 0, 0);
        due("the last is not", holds(x, "twin 0"), 0);
        backs(x, -1, -1, 1);
        due("the middle is nothing", holds(x, "twin 0"), 0);
        backs(x, 2, 0, 1);
        due("the first is not nothing", holds(x, "twin 0"), 0);
        x = chain(0, 0, 1, 2);
        backs(x, -1, 0, 1);
        due("on a ring the first's is nothing, too", holds(x, "twin 0"), 1);
        backs(x, 2, 0, 1);
        due("not the last one", holds(x, "twin 0"), 0);
        x = chain(NOTHING, 5, 4, 3, 2, 1, 0);
        backs(x, 1, 2, 3, 4, 5, -1);
        due("six", holds(x, "twin 0"), 1);
        x.flip(7, NOTHING);
        due("the sixth is not", holds(x, "twin 0"), 0);
    }

    private static void riseLaw() {
        says("II: \"rise\": no KEY on the WAY is below the one ahead of it");
        MendedWebs x = new MendedWebs();
        keys(x, 5, 4, 3, 2, 1, 0);
        due("empty", holds(x, "rise 0"), 1);
        x.flip(0, 0);
        due("one", holds(x, "rise 0"), 1);
        x = chain(NOTHING, 0, 1, 2, 3, 4, 5);
        due("all alike", holds(x, "rise 0"), 1);
        keys(x, 0, 0, 1, 1, 9, 9);
        due("alike and above", holds(x, "rise 0"), 1);
        keys(x, 0, 0, 1, 1, 9, 8);
        due("the last is below", holds(x, "rise 0"), 0);
        keys(x, 1, 0, 1, 1, 9, 9);
        due("the second is below", holds(x, "rise 0"), 0);
        x = chain(0, 0, 1);
        keys(x, 3, 5);
        due("on a ring the first has none ahead", holds(x, "rise 0"), 1);
        keys(x, 3, 5, 0, 0, 0, 0);
        due("others do not matter", holds(x, "rise 0"), 1);
    }

    private static void apartLaw() {
        says("II: \"apart\": no NODE is on both WAYS");
        MendedWebs x = new MendedWebs();
        due("both empty", holds(x, "apart 0 1"), 1);
        due("an empty one and itself", holds(x, "apart 0 0"), 1);
        x = chain(NOTHING, 0, 1, 2);
        due("one empty", holds(x, "apart 0 1"), 1);
        due("one and itself", holds(x, "apart 0 0"), 0);
        x.flip(1, 3);
        x.flip(15, 4);
        due("no node", holds(x, "apart 0 1"), 1);
        x.flip(18, 2);
        due("the last ones", holds(x, "apart 0 1"), 0);
        due("told the other way round", holds(x, "apart 1 0"), 0);
        due("the third head", holds(x, "apart 2 1"), 1);
        x.flip(1, 0);
        due("the first ones", holds(x, "apart 0 1"), 0);
        x = chain(0, 0, 1, 2, 3, 4, 5);
        x.flip(1, 5);
        due("rings", holds(x, "apart 0 1"), 0);
    }

    private static void askedCells() {
        says("II: ASKED are for it: the HEAD, NEXT of all NODES on the WAY; for \"twin\" their BACK, too, for \"rise\" and \"total\" their KEY");
        int next = 1 << 6 | 1 << 9 | 1 << 12 | 1 << 15 | 1 << 18 | 1 << 21;
        String[] words = {"list", "twin", "rise", "keep 0 < length", "keep 0 < total"};
        int[] all = {next, next | next << 1, next | next << 2, next, next | next << 2};
        for (int i = 0; i < words.length; i++) {
            MendedWebs x = new MendedWebs();
            Checks.laws(x, words[i] + " 2");
            due("an empty way: '" + words[i] + "'", x.asked(0), 4);
            x = chain(5, 0, 1, 2, 3, 4, 5);
            Checks.laws(x, words[i] + " 0");
            due("all nodes: '" + words[i] + "'", x.asked(0), 1 | all[i]);
            x = chain(0, 0);
            Checks.laws(x, words[i] + " 0");
            due("node 0: '" + words[i] + "'", x.asked(0), 1 | all[i] & 0x1c0);
        }
    }

    private static void askedOfBroken() {
        says("II: ASKED are for it: .. of all NODES on the WAY, be it broken or not");
        int next = 1 << 6 | 1 << 9 | 1 << 12 | 1 << 15 | 1 << 18 | 1 << 21;
        for (int broken = 0; broken < 6; broken++) {
            MendedWebs x = chain(NOTHING, 0, 1, 2, 3, 4, 5);
            keys(x, 3, 3, 3, 3, 3, 3);
            backs(x, -1, 0, 1, 2, 3, 4);
            x.flip(8 + 3 * broken, broken == 0 ? 9 : 1);
            x.flip(7 + 3 * broken, broken);
            Checks.laws(x, "rise 0;twin 0;apart 0 1;list 0");
            due("rise, broken at " + broken, x.holds(0), 0);
            due("all keys", x.asked(0), 1 | next | next << 2);
            due("twin, broken at " + broken, x.holds(1), 0);
            due("all backs", x.asked(1), 1 | next | next << 1);
            x.flip(1, broken);
            due("apart, broken at " + broken, x.holds(2), 0);
            due("both ways", x.asked(2), 3 | next);
            x.flip(21, broken);
            due("list, broken at " + broken, x.holds(3), 0);
            due("its way", x.asked(3), 1 | next);
        }
    }

    private static void askedOfWords() {
        says("II: ASKED are for \"apart\" those of both; for \"keep\" all that its words need, NAMES as such");
        MendedWebs x = chain(NOTHING, 4);
        x.flip(2, 0);
        Checks.laws(x, "apart 0 2;apart 0 0;keep 1 = 1;keep name 2 = 0 or name 0 = 1;keep 1 = 2 and name 1 = 0;keep not [length 2] = total 0");
        due("both", x.asked(0), 1 | 4 | 1 << 18 | 1 << 6);
        due("one twice", x.asked(1), 1 | 1 << 18);
        due("none", x.asked(2), 0);
        due("all of 'or'", x.asked(3), 1 << 5 | 1 << 3);
        due("all of 'and'", x.asked(4), 1 << 4);
        due("brackets", x.asked(5), 1 | 4 | 1 << 18 | 1 << 20 | 1 << 6);
    }

    private static void bearsOn() {
        says("II: A LINE BEARS on a LAW, if it writes a HEAD or a NAME that the LAW's text has, NEXT .., BACK .., KEY ..");
        MendedWebs x = Checks.web("list 0;twin 0;rise 0;apart 0 1;keep length 0 = 0;keep total 0 = 0;keep name 0 = 0;keep 1 = 1",
            "let head 0 be nothing;let head 1 be nothing;let head 2 be nothing;let name 0 be 0;let name 1 be 0;"
            + "let next(node 0) be nothing;let back(node 0) be nothing;let key(node 0) be 0");
        int[] bits = {63, 8, 0, 64, 0, 63, 2, 36};
        for (int l = 0; l < bits.length; l++) due("line " + l, x.bears(l), bits[l]);
        Checks.laws(x, times("keep 1 = 1;", 11) + "keep name 0 = 0");
        due("the twelfth law", x.bears(3), 1 << 11);
        due("a name, not a head", x.bears(0), 0);
        for (int n = 0; n < 3; n++) {
            MendedWebs y = Checks.web("keep name " + n + " = 0;list " + n + ";keep length " + n + " + name " + (n + 1) % 3 + " = 0",
                "let name 0 be 0;let name 1 be 0;let name 2 be 0;let head 0 be nothing;let head 1 be nothing;let head 2 be nothing");
            for (int o = 0; o < 3; o++) {
                due("name " + o + " on those of " + n, y.bears(o), (o == n ? 1 : 0) + (o == (n + 1) % 3 ? 4 : 0));
                due("head " + o + " on those of " + n, y.bears(3 + o), o == n ? 6 : 0);
            }
        }
        Checks.laws(x, times("twin 0;", 11) + "twin 0");
        due("all twelve", x.bears(6), 0xfff);
        x.laws();
        due("those before stay", x.bears(6), 0xfff);
    }

    private static void bearsByWriting() {
        says("II: A LINE BEARS on a LAW, if it writes: not by what it reads");
        MendedWebs x = Checks.web("list 1;keep name 1 = 0;rise 1;twin 1;keep length 1 + total 1 + name 1 = 0;apart 1 1",
            "let name 0 be name 1 if name 1 = 0;let head 0 be head 1 if length 1 = 0;let name 0 be key(next(back(head 1)));let name 2 be total 1;"
            + "let back(next(head 1)) be next(head 1) if name 1 = key(head 1);let key(back(head 1)) be name 1 + length 1;"
            + "let next(head 1) be back(head 1) if name 1 = 0");
        int[] bits = {0, 0, 0, 0, 8, 4 + 16, 1 + 4 + 8 + 16 + 32};
        for (int l = 0; l < bits.length; l++) due("line " + l, x.bears(l), bits[l]);
    }

    private static void payBearsOnNone() {
        says("II: \"pay\" bears on none");
        MendedWebs x = Checks.web("list 0;twin 0;rise 0;keep name 0 = 0;keep total 0 = length 0", "pay name 0 + total 0 + length 0 + key(next(head 0)) if name 0 = 0");
        due("pay", x.bears(0), 0);
        x = Checks.web("", "let name 0 be 1");
        due("no laws", x.bears(0), 0);
    }

    // ---- Promises 2 to 9

    private static void feedEdges() {
        says("2: NONE, if there would be more than 400");
        MendedWebs x = new MendedWebs();
        for (int i = 1; i <= 20; i++) due("feed " + i, x.feed(-1, 0, Integer.MIN_VALUE, Integer.MAX_VALUE, i), 20 * i);
        due("the 21st", x.feed(1, 2, 3, 4, 5), -1);
        due("the tape is as it was", x.end(400), 400);
        x.end(381);
        due("19 are free", x.feed(1, 2, 3, 4, 5), -1);
        due("as it was, too", x.end(382), -1);
        x.end(380);
        due("20 are free", x.feed(1, 2, 3, 4, 5), 400);
    }

    private static void feedBytes() {
        says("2: Twenty bytes come behind the TAPE, four of each number, the highest first");
        MendedWebs x = new MendedWebs();
        x.feed(0x00010203, 0x04050607, 0xff000009, 0x08000102, 0x030405ff);
        x.end(20);
        due("all but those that can't be there", x.row(3), 16);
        int[] want = {0, 1, 2, 3, 4, 5, NOTHING, NOTHING, 0, 0, 0, 9, NOTHING, 0, 1, 2, 3, 4, 5, NOTHING};
        for (int i = 0; i < 20; i++) due("cell " + (3 + i), x.cell(3 + i, 0), want[i]);
        x.feed(0x09090909, 0, 0, 0, 0);
        x.end(2);
        x.feed(0x05050505, 0, 0, 0, 0);
        x.end(3);
        x.row(3);
        due("behind those kept", x.cell(5, 0), 5);
        due("those kept", x.cell(4, 0), 9);
    }

    private static void endEdges() {
        says("3: NONE, if it has not so many, or n is below 0");
        MendedWebs x = new MendedWebs();
        due("0 of 0", x.end(0), 0);
        due("1 of 0", x.end(1), -1);
        due("-1", x.end(-1), -1);
        x.feed(0x70617920, 0x31323334, 0, 0, 0);
        for (int n : FAR) due("end " + n, x.end(n), -1);
        due("21 of 20", x.end(21), -1);
        due("20 of 20", x.end(20), 20);
        due("5 of 20", x.end(5), 5);
        due("6 of 5", x.end(6), -1);
        due("the first 5 alone: 'pay 1'", x.lines(), 1);
        x.feed(1, 2, 3, 4, 5);
        due("0 of 20", x.end(0), 0);
        due("it is empty", x.end(1), -1);
    }

    private static void lawsEdges() {
        says("4: The TAPE, which is empty then (none is SEEN, BROKEN then till a STEP); -6 (those before stay)");
        MendedWebs x = Checks.web("keep 1 = 2", "pay 1");
        due("the tape is empty", x.end(1), -1);
        x.watch(3);
        x.step(2);
        due("blanks alone", Checks.laws(x, "    "), -6);
        due("fault at the end", x.fault(), 4);
        due("the tape is empty, too", x.end(1), -1);
        due("broken stays", x.seen(0, 0), 0);
        due("seen stays", x.seen(0, 1), 0);
        due("late stays", x.seen(0, 2), 0);
        due("those before stay", x.holds(0), 0);
        due("taken", Checks.laws(x, "keep 1 = 2"), 1);
        due("not broken till a step", x.seen(0, 0), -1);
        due("not seen till a step", x.seen(0, 1), -1);
        due("a new law was seen at no time: not late", x.seen(0, 2), -1);
        x.step(1);
        due("broken since this one", x.seen(0, 0), 2);
        due("seen in this one", x.seen(0, 1), 2);
        due("not late", x.seen(0, 2), 0);
    }

    private static void manyTexts() {
        says("4, 5: the TAPE becomes the TEXT, however many came before");
        MendedWebs x = new MendedWebs();
        String law = "keep 1=2" + times("or 1=2", 14);
        String line = "pay 1" + times("+1", 29);
        for (int i = 0; i < 20; i++) {
            due("laws " + i, Checks.laws(x, law + ";" + law + ";keep name 0 = " + i % 10), 3);
            due("lines " + i, Checks.lines(x, line + ";" + line + ";pay " + i), 3);
            x.flip(3, i % 10);
            due("law 0", x.holds(0), 0);
            due("law 2", x.holds(2), 1);
            x.step(3);
            due("paid by line 0", x.out(3 * i), 30);
            due("paid by line 2", x.out(3 * i + 2), i);
        }
    }

    private static void linesEdges() {
        says("5: LINE 0 is next; no ROUTINE; -6 (those before stay)");
        MendedWebs x = Checks.web("keep 1 = 2", "let name 0 be 1;let name 1 be 1;pay 1");
        due("the tape is empty", x.end(1), -1);
        x.watch(3);
        x.routine(0, 2);
        x.step(2);
        due("refused", Checks.lines(x, "pay"), -6);
        due("the tape is empty, too", x.end(1), -1);
        due("line 2 is next still", x.all(7), 2);
        due("those before stay", x.bears(2), 0);
        due("steps have their lines still", x.again(0), 1);
        x.step(2);
        due("the routine stays", x.all(6), 1);
        due("taken", Checks.lines(x, "let name 2 be 1;pay 2"), 2);
        due("line 0 is next", x.all(7), 0);
        due("steps ahead have no line", x.again(2), 0);
        x.step(1);
        due("line 0 was done", x.cell(5, 0), 1);
        due("no routine", x.all(6), 2);
        due("steps are counted on", x.all(0), 5);
    }

    private static void faultEdges() {
        says("6: FAULT of the latest laws(), lines(): its place; NONE without");
        MendedWebs x = new MendedWebs();
        due("at first", x.fault(), -1);
        Checks.laws(x, "list 3");
        due("of laws", x.fault(), 5);
        x.feed(1, 2, 3, 4, 5);
        x.row(24);
        x.step(0);
        due("of no other call", x.fault(), 5);
        Checks.lines(x, "pay x");
        due("of lines", x.fault(), 4);
        Checks.laws(x, "list 0");
        due("none of the latest", x.fault(), -1);
        Checks.lines(x, "pay x");
        Checks.lines(x, "pay 1");
        due("none of the latest, too", x.fault(), -1);
        Checks.laws(x, "x");
        due("at place 0", x.fault(), 0);
    }

    private static void queriesOfRows() {
        says("7, 8, 9: NONE");
        MendedWebs x = Checks.web("list 0" + times(";list 0", 11), "let name 0 be 0" + times(";let head 0 be nothing", 11));
        due("the last law", x.holds(11), 1);
        due("the last line", x.bears(11), 0xfff);
        due("asked for the last", x.asked(11), 1);
        int[] wrong = {-1, 12, 32, Integer.MIN_VALUE, Integer.MAX_VALUE};
        for (int w : wrong) {
            due("holds " + w, x.holds(w), -1);
            due("bears " + w, x.bears(w), -1);
            due("asked " + w, x.asked(w), -1);
        }
        x.step(1);
        Checks.laws(x, "list 0;list 1");
        Checks.lines(x, "pay 1");
        due("fewer laws", x.holds(2), -1);
        due("fewer laws asked", x.asked(2), -1);
        due("fewer lines", x.bears(1), -1);
    }

    private static void wayEdges() {
        says("11: The i-th NODE on the WAY of a HEAD; NONE");
        MendedWebs x = chain(NOTHING, 1, 0);
        for (int h = 0; h < 3; h++) x.flip(h, 1);
        for (int h = 0; h < 3; h++) {
            due("first of " + h, x.way(h, 0), 1);
            due("second of " + h, x.way(h, 1), 0);
            due("third of " + h, x.way(h, 2), -1);
            due("-1 of " + h, x.way(h, -1), -1);
            for (int i : FAR) due(i + " of " + h, x.way(h, i), -1);
        }
        x.flip(3, 1);
        due("head 3", x.way(3, 0), -1);
        due("head -1", x.way(-1, 0), -1);
        for (int h : FAR) due("head " + h, x.way(h, 0), -1);
    }

    public static void main(String[] args) {
        cells();
        whichCell();
        nodesOrNothing();
        numbers();
        noneMarked();
        ways();
        orderOfRefusals();
        noneAtFirst();
        tapeOf400();
        letters();
        digits();
        singleBytes();
        blanks();
        twelveRows();
        rowsBetween();
        numbersOfNodes();
        numbersOfHeadsAndNames();
        numbersInSums();
        keyInALine();
        eightBrackets();
        bracketsSideBySide();
        sixtyTokens();
        sixtyTokensOfEachRow();
        faults();
        faultAtTheEnd();
        testsAndSums();
        lengthAndTotal();
        listLaw();
        twinLaw();
        riseLaw();
        apartLaw();
        askedCells();
        askedOfBroken();
        askedOfWords();
        bearsOn();
        bearsByWriting();
        payBearsOnNone();
        feedEdges();
        feedBytes();
        endEdges();
        lawsEdges();
        manyTexts();
        linesEdges();
        faultEdges();
        queriesOfRows();
        wayEdges();
        Checks.close();
    }
}
