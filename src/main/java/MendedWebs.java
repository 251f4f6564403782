import java.util.Arrays;

/**
 * A web of cells that lines write and laws judge; it is watched, mended, gone back to.
 *
 * Nothing is made by a call but two images and a spare state, once each: a run's calls share one room.
 */
public final class MendedWebs {
    public static final int NONE = -1;

    // What a call answers where NONE could be a value.
    private static final int WITHOUT = -1000;

    // What a call is refused by.
    private static final int BAD_NUMBER = -1;
    private static final int NOT_THERE = -2;
    private static final int NOT_NOW = -3;
    private static final int BAD_TEXT = -6;

    // The cells: heads, names, then next, back, key of each node.
    private static final int CELLS = 24;
    private static final int HEADS = 3;
    private static final int NODES = 6;
    private static final int FIRST_NAME = 3;
    private static final int FIRST_NEXT = 6;
    private static final int FIRST_BACK = 7;
    private static final int FIRST_KEY = 8;
    private static final int PER_NODE = 3;
    private static final int NUMBER_MOST = 9;
    private static final int NODE_MOST = 5;
    private static final int NOTHING_BYTE = 255;
    // The target of a line that pays: behind the targets that are cells.
    private static final int PAYMENT = 9;

    private static final int TAPE_MOST = 400;
    private static final int ROWS_MOST = 12;
    private static final int TOKENS_MOST = 60;
    private static final int BRACKETS_MOST = 8;
    private static final int HEAD_LAST = 2;
    private static final int CONSTANT_MOST = 99;

    private static final int WRITES_MOST = 200;
    private static final int STEPS_KEPT = 200;
    private static final int OUT_MOST = 100;
    private static final int STEPS_A_CALL = 64;
    private static final int PAPER_MOST = 24;
    private static final int CHANCE_MOST = 1000;
    private static final int SEED_MOST = 1000000;
    private static final int WATCH_MOST = 3;
    private static final int IMAGES = 2;

    private static final int KINDS = 5;
    private static final int PRICE_MOST = 9;
    private static final int RECENT_STEPS = 8;
    private static final int CHANGES_MOST = 3;
    private static final int MENDS_MOST = 500;
    private static final int PAIR_BITS = 9;
    private static final int PAIR_MASK = 511;
    private static final int VALUE_BITS = 4;
    private static final int VALUE_MASK = 15;

    // Who wrote a cell, where it was no line.
    private static final int BY_FLIP = -1;
    private static final int BY_MEND = -2;

    // What came of a line.
    private static final int WAS_PASSED = 0;
    private static final int WAS_AMISS = 1;
    private static final int WAS_WRITTEN = 2;
    private static final int WAS_PAID = 3;
    private static final int WAS_HELD = 4;

    // What came of a fault put in.
    private static final int WENT_WELL = 0;
    private static final int WENT_HELD = 1;
    private static final int WENT_LOST = 2;
    private static final int WENT_ENDED = 3;

    // What is counted, in the order in which all(what) tells it.
    private static final int STEPS = 0;
    private static final int PASSED = 1;
    private static final int AMISS = 2;
    private static final int PAID = 3;
    private static final int HELD_BACK = 4;
    private static final int LOT_FLIPS = 5;
    private static final int COST = 6;
    private static final int NEXT_LINE = 7;
    private static final int COUNTS = 8;

    // The words of both languages, each number the word's place in this row.
    private static final String WORDS =
        "list twin rise apart keep let pay if head name next back key node nothing be or and not length total ";
    private static final int LIST = 0;
    private static final int TWIN = 1;
    private static final int RISE = 2;
    private static final int APART = 3;
    private static final int KEEP = 4;
    private static final int LET = 5;
    private static final int PAY = 6;
    private static final int IF = 7;
    private static final int HEAD = 8;
    private static final int NAME = 9;
    private static final int NEXT = 10;
    private static final int BACK = 11;
    private static final int KEY = 12;
    private static final int NODE = 13;
    private static final int NOTHING = 14;
    private static final int BE = 15;
    private static final int OR = 16;
    private static final int AND = 17;
    private static final int NOT = 18;
    private static final int LENGTH = 19;
    private static final int TOTAL = 20;
    // The other tokens; a single byte is SIGN and the byte.
    private static final int UNKNOWN = 21;
    private static final int NUMBER = 22;
    private static final int END = 23;
    private static final int FAILED = 24;
    // No tokens, but words for which a number is awaited: the first way of two, a head and a name to be written.
    private static final int FIRST_WAY = 25;
    private static final int AIM_HEAD = 26;
    private static final int AIM_NAME = 27;
    private static final int SIGN = 32;
    private static final int PLUS = SIGN + '+';
    private static final int MINUS = SIGN + '-';
    private static final int LESS = SIGN + '<';
    private static final int MORE = SIGN + '>';
    private static final int SAME = SIGN + '=';
    private static final int OPEN = SIGN + '(';
    private static final int CLOSE = SIGN + ')';
    private static final int OPEN_SUM = SIGN + '[';
    private static final int CLOSE_SUM = SIGN + ']';
    private static final int BETWEEN = SIGN + ';';

    // What a compiler awaits: below these a token; a number for a word; code to be emitted; a rule.
    private static final int NUMBER_FOR = 300;
    private static final int EMIT = 400;
    private static final int LAW_RULE = 700;
    private static final int LINE_RULE = 701;
    private static final int PLACE_RULE = 702;
    private static final int NODE_END = 703;
    private static final int IF_RULE = 704;
    private static final int TEST_RULE = 710;
    private static final int MORE_OR = 711;
    private static final int BOTH_RULE = 712;
    private static final int MORE_AND = 713;
    private static final int PLAIN_RULE = 714;
    private static final int COMPARED = 715;
    private static final int SUM_RULE = 720;
    private static final int MORE_SUM = 721;
    private static final int PART_RULE = 722;
    private static final int NODE_RULE = 723;
    private static final int IN_BRACKETS = 724;
    // Far above what 60 tokens with 8 brackets can need.
    private static final int AWAITED_MOST = 256;
    private static final int MOVES_MOST = 10000;

    // A piece of code is a token's number and, in its low bits, what stands behind it.
    private static final int ARGUMENT_BITS = 7;
    private static final int ARGUMENT_MASK = 127;

    private final int[] tape = new int[TAPE_MOST];
    private int tapeLength = 0;
    private int faultPlace = NONE;
    private int refusedBy = 0;
    private State now = new State();
    private State spare = null;
    private final State[] images = new State[IMAGES];
    private final Compiler compiler = new Compiler();
    private final Reader reader = new Reader();
    private final LineWork work = new LineWork();
    private final Mender mender = new Mender();
    private final Paper paper = new Paper();

    public MendedWebs() {
    }

    public int feed(int a, int b, int c, int d, int e) {
        if (tapeLength + 20 > TAPE_MOST) {
            return NONE;
        }
        feedFour(a);
        feedFour(b);
        feedFour(c);
        feedFour(d);
        feedFour(e);
        return tapeLength;
    }

    private void feedFour(int bytes) {
        for (int shift = 24; shift >= 0; shift -= 8) {
            if (tapeLength < TAPE_MOST) {
                tape[tapeLength] = bytes >> shift & 255;
                tapeLength++;
            }
        }
    }

    public int end(int n) {
        if (n < 0 || n > tapeLength) {
            return NONE;
        }
        tapeLength = n;
        return n;
    }

    public int laws() {
        faultPlace = compiler.compile(tape, tapeLength, false);
        tapeLength = 0;
        if (faultPlace != NONE) {
            return refuse(BAD_TEXT);
        }
        now.laws.become(compiler.text);
        now.watch.forget();
        changed();
        return answer(now.laws.count);
    }

    public int lines() {
        faultPlace = compiler.compile(tape, tapeLength, true);
        tapeLength = 0;
        if (faultPlace != NONE) {
            return refuse(BAD_TEXT);
        }
        now.lines.become(compiler.text);
        now.counts[NEXT_LINE] = 0;
        now.watch.from = NONE;
        now.watch.to = NONE;
        now.journal.loseLines();
        changed();
        return answer(now.lines.count);
    }

    public int fault() {
        return faultPlace;
    }

    public int holds(int law) {
        if (!now.laws.has(law)) {
            return NONE;
        }
        reader.begin(now.web.cells);
        return reader.run(now.laws, now.laws.start[law], now.laws.testEnd[law]);
    }

    public int bears(int line) {
        if (!now.lines.has(line)) {
            return NONE;
        }
        return now.bearsOn(line);
    }

    public int asked(int law) {
        if (!now.laws.has(law)) {
            return NONE;
        }
        reader.begin(now.web.cells);
        reader.run(now.laws, now.laws.start[law], now.laws.testEnd[law]);
        return reader.read;
    }

    public int cell(int cell, int what) {
        if (!isCell(cell)) {
            return WITHOUT;
        }
        switch (what) {
            case 0: return now.web.cells[cell];
            case 1: return now.web.markOf(cell);
            case 2: return now.mended[cell];
            case 3: return now.journal.latestLine(cell);
            default: return WITHOUT;
        }
    }

    public int way(int head, int i) {
        if (head < 0 || head >= HEADS) {
            return NONE;
        }
        reader.begin(now.web.cells);
        return reader.nodeOnWay(head, i);
    }

    public int flip(int cell, int value) {
        if (!isCell(cell) || !canBe(cell, value)) {
            return refuse(BAD_NUMBER);
        }
        int was = now.web.cells[cell];
        now.flipTo(now.counts[STEPS], cell, value);
        changed();
        return answer(was);
    }

    public int row(int cell) {
        int bytes = tapeLength;
        // Ahead of all refusals: behind a row that was refused the tape is empty, too.
        tapeLength = 0;
        if (!isCell(cell)) {
            return refuse(BAD_NUMBER);
        }
        if (bytes == 0 || bytes > CELLS - cell) {
            return refuse(BAD_TEXT);
        }
        int written = 0;
        for (int i = 0; i < bytes; i++) {
            int value = tape[i] == NOTHING_BYTE ? NONE : tape[i];
            if (canBe(cell + i, value)) {
                now.flipTo(now.counts[STEPS], cell + i, value);
                written++;
            }
        }
        changed();
        return answer(written);
    }

    public int lots(int chance, int seed) {
        if (chance < 0 || chance > CHANCE_MOST || seed < 0 || seed > SEED_MOST) {
            return refuse(BAD_NUMBER);
        }
        now.chance = chance;
        now.lot = seed;
        return answer(0);
    }

    public int watch(int how) {
        if (how < 0 || how > WATCH_MOST) {
            return refuse(BAD_NUMBER);
        }
        int was = now.watch.how;
        now.watch.how = how;
        return answer(was);
    }

    public int routine(int from, int to) {
        if (!now.lines.has(from) || !now.lines.has(to)) {
            return refuse(NOT_THERE);
        }
        if (from > to) {
            return refuse(NOT_NOW);
        }
        now.watch.from = from;
        now.watch.to = to;
        return answer(0);
    }

    public int step(int n) {
        if (n < 1 || n > STEPS_A_CALL) {
            return refuse(BAD_NUMBER);
        }
        if (now.lines.count == 0) {
            return refuse(NOT_NOW);
        }
        for (int i = 0; i < n; i++) {
            stepOnce();
        }
        changed();
        return answer(now.counts[STEPS]);
    }

    private void stepOnce() {
        int step = now.counts[STEPS];
        int line = now.counts[NEXT_LINE];
        work.perform(now.lines, line, now.web);
        now.takeOutcome(step, line, work);
        now.flipByLots(step);
        watchStep(step, line);
        now.counts[STEPS]++;
        now.counts[NEXT_LINE] = line + 1 < now.lines.count ? line + 1 : 0;
    }

    private void watchStep(int step, int line) {
        reader.begin(now.web.cells);
        int broken = reader.brokenLaws(now.laws);
        now.watch.noteBroken(step, broken, now.laws.count);
        int toAsk = now.lawsToAsk(step, line, work.outcome);
        now.counts[COST] += Integer.bitCount(toAsk);
        now.watch.noteSeen(step, toAsk & broken);
    }

    public int seen(int law, int what) {
        if (!now.laws.has(law)) {
            return NONE;
        }
        switch (what) {
            case 0: return now.watch.brokenSince[law];
            case 1: return now.watch.seenIn[law];
            case 2: return now.watch.late[law];
            default: return NONE;
        }
    }

    public int all(int what) {
        if (what == COUNTS) {
            return now.journal.count;
        }
        return what >= 0 && what < COUNTS ? now.counts[what] : NONE;
    }

    public int out(int i) {
        if (i < 0 || i >= OUT_MOST || i >= now.counts[PAID]) {
            return WITHOUT;
        }
        return now.out[i];
    }

    public int price(int kind, int price) {
        if (kind < 0 || kind >= KINDS || price < 1 || price > PRICE_MOST) {
            return refuse(BAD_NUMBER);
        }
        int was = now.prices[kind];
        now.prices[kind] = price;
        changed();
        return answer(was);
    }

    public int copy() {
        System.arraycopy(now.web.cells, 0, now.copyOfCells, 0, CELLS);
        now.copied = true;
        changed();
        return 0;
    }

    public int weighty(int cells) {
        if (cells < 0 || cells >= 1 << CELLS) {
            return refuse(BAD_NUMBER);
        }
        int was = now.weightyCells;
        now.weightyCells = cells;
        return answer(was);
    }

    public int least(int m, int what) {
        MendList list = mender.leastBy(now, m);
        if (list == null) {
            return NONE;
        }
        switch (what) {
            case 0: return list.total;
            case 1: return Math.min(list.found, MENDS_MOST + 1);
            case 2: return list.differIn(now.weightyCells) ? 1 : 0;
            default: return NONE;
        }
    }

    public int mends(int m, int i, int k, int what) {
        MendList list = mender.leastBy(now, m);
        if (list == null || !list.has(i) || k < 0 || k >= list.size) {
            return WITHOUT;
        }
        switch (what) {
            case 0: return list.cellOf(i, k);
            case 1: return list.valueOf(i, k);
            default: return WITHOUT;
        }
    }

    public int mend(int m, int i) {
        if (m < 1 || m > CHANGES_MOST) {
            return refuse(BAD_NUMBER);
        }
        MendList list = mender.leastBy(now, m);
        // A mend of no cell means that all laws hold.
        if (list == null || list.size == 0) {
            return refuse(NOT_NOW);
        }
        if (i == NONE && list.differIn(now.weightyCells)) {
            return refuse(NOT_NOW);
        }
        int which = i == NONE ? 0 : i;
        if (!list.has(which)) {
            return refuse(NOT_NOW);
        }
        for (int k = 0; k < list.size; k++) {
            now.mendTo(list.cellOf(which, k), list.valueOf(which, k));
        }
        changed();
        return answer(list.total);
    }

    public int sure(int cell) {
        if (!isCell(cell)) {
            return refuse(BAD_NUMBER);
        }
        if (now.web.markOf(cell) == 0) {
            return refuse(NOT_NOW);
        }
        now.web.mark(cell, 0);
        changed();
        return answer(0);
    }

    public int spread(int cell, int step) {
        if (!isCell(cell) || step < 0 || step >= now.counts[STEPS] || !now.journal.isKeptFrom(step)) {
            return NONE;
        }
        return now.journal.spreadOf(cell, step);
    }

    public int again(int step) {
        int steps = now.counts[STEPS];
        if (step < 0 || step >= steps) {
            return refuse(BAD_NUMBER);
        }
        if (step < steps - STEPS_KEPT || !now.journal.isKeptFrom(step)) {
            return refuse(NOT_NOW);
        }
        if (spare == null) {
            spare = new State();
        }
        // Done on the spare state, so that a step gone amiss leaves all as it was.
        spare.become(now);
        int anew = doAgain(spare, step);
        if (anew == NONE) {
            return refuse(NOT_NOW);
        }
        State before = now;
        now = spare;
        spare = before;
        changed();
        return answer(anew);
    }

    /** How many steps behind the one left out have a line; NONE if one goes amiss that was not. */
    private int doAgain(State state, int step) {
        state.takeBackFrom(step);
        state.journal.leaveOut(step);
        int anew = 0;
        for (int later = step + 1; later < state.counts[STEPS]; later++) {
            int line = state.journal.lineOf(later);
            if (line == NONE) {
                continue;
            }
            anew++;
            if (state.lines.targetOf(line) == PAYMENT) {
                continue;
            }
            work.perform(state.lines, line, state.web);
            boolean amiss = work.outcome == WAS_AMISS;
            if (amiss && !state.journal.wasAmiss(later)) {
                return NONE;
            }
            // A step done anew is kept as it went now: a later again compares with that.
            state.journal.noteStep(later, line, amiss);
            if (work.outcome == WAS_WRITTEN) {
                state.write(later, line, work.cell, work.value, work.marked, work.read);
            }
        }
        return anew;
    }

    public int putIn(int n, int what) {
        if (n < 1 || n > PAPER_MOST || what < 0 || what > WENT_ENDED || now.lines.count == 0) {
            return NONE;
        }
        paper.prepare(now, n);
        return paper.came[what];
    }

    public int image(int k) {
        if (k < 0 || k >= IMAGES) {
            return refuse(BAD_NUMBER);
        }
        if (images[k] == null) {
            images[k] = new State();
        }
        images[k].become(now);
        return answer(0);
    }

    public int back(int k) {
        if (k < 0 || k >= IMAGES) {
            return refuse(BAD_NUMBER);
        }
        State image = images[k];
        if (image == null) {
            return refuse(NOT_THERE);
        }
        now.become(image);
        changed();
        return answer(0);
    }

    public int status() {
        return refusedBy;
    }

    private int refuse(int by) {
        refusedBy = by;
        return by;
    }

    private int answer(int value) {
        refusedBy = 0;
        return value;
    }

    /** What was found out about the state as it was holds no more. */
    private void changed() {
        mender.forget();
        paper.forget();
    }

    private static boolean isCell(int cell) {
        return cell >= 0 && cell < CELLS;
    }

    private static boolean isNumber(int cell) {
        return cell >= FIRST_NAME && (cell < FIRST_NEXT || cell % PER_NODE == 2);
    }

    private static int lowestOf(int cell) {
        return isNumber(cell) ? 0 : NONE;
    }

    private static int highestOf(int cell) {
        return isNumber(cell) ? NUMBER_MOST : NODE_MOST;
    }

    private static boolean canBe(int cell, int value) {
        return value >= lowestOf(cell) && value <= highestOf(cell);
    }

    /** 0 a head, 1 a name, 2 next, 3 back, 4 key. */
    private static int kindOf(int cell) {
        if (cell < FIRST_NAME) {
            return 0;
        }
        return cell < FIRST_NEXT ? 1 : 2 + cell % PER_NODE;
    }

    /** The cells' values and which of them are marked. */
    private static final class Web {
        final int[] cells = new int[CELLS];
        int marks = 0;

        Web() {
            for (int i = 0; i < CELLS; i++) {
                cells[i] = lowestOf(i);
            }
        }

        void become(Web other) {
            System.arraycopy(other.cells, 0, cells, 0, CELLS);
            marks = other.marks;
        }

        int markOf(int cell) {
            return marks >> cell & 1;
        }

        void mark(int cell, int marked) {
            marks = marks & ~(1 << cell) | marked << cell;
        }
    }

    /** A text of laws or of lines, as code that a Reader runs. */
    private static final class Text {
        int count = 0;
        int size = 0;
        final int[] code = new int[TAPE_MOST];
        // Of each row: its code begins, the place's node ends, what it is to be ends, its test ends.
        final int[] start = new int[ROWS_MOST];
        final int[] nodeEnd = new int[ROWS_MOST];
        final int[] valueEnd = new int[ROWS_MOST];
        final int[] testEnd = new int[ROWS_MOST];
        // The cell that a line writes (of next, back, key that of node 0), or PAYMENT.
        final int[] target = new int[ROWS_MOST];
        // Bits of the targets by which a line bears on this law.
        final int[] needs = new int[ROWS_MOST];

        void clear() {
            count = 0;
            size = 0;
        }

        void become(Text other) {
            count = other.count;
            size = other.size;
            System.arraycopy(other.code, 0, code, 0, other.size);
            System.arraycopy(other.start, 0, start, 0, ROWS_MOST);
            System.arraycopy(other.nodeEnd, 0, nodeEnd, 0, ROWS_MOST);
            System.arraycopy(other.valueEnd, 0, valueEnd, 0, ROWS_MOST);
            System.arraycopy(other.testEnd, 0, testEnd, 0, ROWS_MOST);
            System.arraycopy(other.target, 0, target, 0, ROWS_MOST);
            System.arraycopy(other.needs, 0, needs, 0, ROWS_MOST);
        }

        boolean has(int row) {
            return row >= 0 && row < count;
        }

        int targetOf(int row) {
            return has(row) ? target[row] : PAYMENT;
        }

        void emit(int token, int argument) {
            if (size < TAPE_MOST) {
                code[size] = token << ARGUMENT_BITS | argument;
                size++;
            }
        }

        void beginRow() {
            if (count < ROWS_MOST) {
                start[count] = size;
                nodeEnd[count] = size;
                valueEnd[count] = size;
                target[count] = PAYMENT;
                needs[count] = 0;
            }
        }

        void aimAt(int cell) {
            if (count < ROWS_MOST) {
                target[count] = cell;
            }
        }

        void endNode() {
            if (count < ROWS_MOST) {
                nodeEnd[count] = size;
            }
        }

        void endValue() {
            if (count < ROWS_MOST) {
                valueEnd[count] = size;
            }
        }

        void need(int bits) {
            if (count < ROWS_MOST) {
                needs[count] |= bits;
            }
        }

        void endRow() {
            if (count < ROWS_MOST) {
                testEnd[count] = size;
                count++;
            }
        }
    }

    /**
     * Makes a Text of the tape, or finds the fault.
     *
     * What is awaited stands on a stack, the nearest on top: tokens, numbers, code to be emitted, rules of the
     * grammar. A rule tells by the token in hand what it becomes: so the first token that can't go on fails.
     */
    private static final class Compiler {
        final Text text = new Text();
        private boolean ofLines = false;
        private final int[] tokens = new int[TAPE_MOST + 1];
        private final int[] numbers = new int[TAPE_MOST + 1];
        private final int[] places = new int[TAPE_MOST + 1];
        private int scanned = 0;
        // The token in hand, and which of those scanned it is.
        private int token = END;
        private int at = 0;
        private final int[] awaited = new int[AWAITED_MOST];
        private int top = 0;
        private int used = 0;
        private int brackets = 0;
        private int faultAt = NONE;

        /** The fault's place, or NONE. */
        int compile(int[] bytes, int length, boolean asLines) {
            scan(bytes, Math.min(length, bytes.length));
            ofLines = asLines;
            faultAt = NONE;
            text.clear();
            goTo(0);
            boolean more = true;
            for (int i = 0; i < ROWS_MOST && more; i++) {
                compileRow();
                more = token == BETWEEN;
                if (more) {
                    goTo(at + 1);
                }
            }
            // More than the last row that may be is a fault, as is less than a whole one.
            if (more || token != END) {
                fail();
            }
            return faultAt;
        }

        private void compileRow() {
            used = 0;
            brackets = 0;
            top = 0;
            text.beginRow();
            await(ofLines ? LINE_RULE : LAW_RULE);
            for (int i = 0; i < MOVES_MOST && top > 0; i++) {
                top--;
                int symbol = awaited[top];
                if (symbol >= LAW_RULE) {
                    expand(symbol);
                } else if (symbol >= EMIT) {
                    text.emit(symbol - EMIT, 0);
                } else if (symbol >= NUMBER_FOR) {
                    takeNumberFor(symbol - NUMBER_FOR);
                } else {
                    takeDue(symbol);
                }
            }
            text.endRow();
        }

        private void expand(int rule) {
            switch (rule) {
                case LAW_RULE: expandLaw(token); break;
                case LINE_RULE: expandLine(token); break;
                case PLACE_RULE: expandPlace(token); break;
                case NODE_END: text.endNode(); break;
                case IF_RULE: expandIf(); break;
                case PART_RULE: expandPart(token); break;
                case NODE_RULE: expandNode(token); break;
                case IN_BRACKETS: await(OPEN, NODE_RULE, CLOSE); break;
                default: expandTest(rule, token);
            }
        }

        private void expandLaw(int word) {
            switch (word) {
                case LIST: take(); await(NUMBER_FOR + LIST); break;
                case TWIN: take(); await(NUMBER_FOR + TWIN); break;
                case RISE: take(); await(NUMBER_FOR + RISE); break;
                case APART: take(); await(NUMBER_FOR + FIRST_WAY, NUMBER_FOR + APART); break;
                case KEEP: take(); await(TEST_RULE); break;
                default: fail();
            }
        }

        private void expandLine(int word) {
            switch (word) {
                case LET: take(); await(PLACE_RULE, IF_RULE); break;
                case PAY: take(); await(SUM_RULE, IF_RULE); break;
                default: fail();
            }
        }

        private void expandPlace(int word) {
            switch (word) {
                case HEAD: take(); await(NUMBER_FOR + AIM_HEAD, BE, NODE_RULE); break;
                case NAME: take(); await(NUMBER_FOR + AIM_NAME, BE, SUM_RULE); break;
                case NEXT: aimAtNode(FIRST_NEXT, NODE_RULE); break;
                case BACK: aimAtNode(FIRST_BACK, NODE_RULE); break;
                case KEY: aimAtNode(FIRST_KEY, SUM_RULE); break;
                default: fail();
            }
        }

        private void aimAtNode(int first, int toBe) {
            text.aimAt(first);
            take();
            await(BE, toBe);
            await(IN_BRACKETS, NODE_END);
        }

        private void expandIf() {
            text.endValue();
            if (token == IF) {
                take();
                await(TEST_RULE);
            }
        }

        private void expandTest(int rule, int sign) {
            switch (rule) {
                case TEST_RULE: await(BOTH_RULE, MORE_OR); break;
                case BOTH_RULE: await(PLAIN_RULE, MORE_AND); break;
                case SUM_RULE: await(PART_RULE, MORE_SUM); break;
                case MORE_OR: goOnIf(sign == OR, BOTH_RULE, rule); break;
                case MORE_AND: goOnIf(sign == AND, PLAIN_RULE, rule); break;
                case MORE_SUM: goOnIf(sign == PLUS || sign == MINUS, PART_RULE, rule); break;
                case PLAIN_RULE: expandPlain(); break;
                default: expandCompared(sign);
            }
        }

        /** A row goes on behind the sign in hand, or ends ahead of it. */
        private void goOnIf(boolean more, int rule, int then) {
            if (more) {
                int sign = token;
                take();
                await(rule, EMIT + sign, then);
            }
        }

        private void expandPlain() {
            if (token == NOT) {
                take();
                await(PLAIN_RULE, EMIT + NOT);
            } else if (token == OPEN) {
                await(OPEN, TEST_RULE, CLOSE);
            } else {
                await(SUM_RULE, COMPARED);
            }
        }

        private void expandCompared(int sign) {
            if (sign == LESS || sign == MORE || sign == SAME) {
                take();
                await(SUM_RULE, EMIT + sign);
            } else {
                fail();
            }
        }

        private void expandPart(int word) {
            if (word == NUMBER) {
                await(NUMBER_FOR + NUMBER);
            } else if (word == NAME || word == LENGTH || word == TOTAL) {
                take();
                await(NUMBER_FOR + word);
            } else if (word == OPEN_SUM) {
                await(OPEN_SUM, SUM_RULE, CLOSE_SUM);
            } else if (word == KEY && ofLines) {
                take();
                await(IN_BRACKETS, EMIT + KEY);
            } else {
                fail();
            }
        }

        private void expandNode(int word) {
            if (word == NODE || word == HEAD) {
                take();
                await(NUMBER_FOR + word);
            } else if (word == NOTHING) {
                take();
                await(EMIT + NOTHING);
            } else if (word == NEXT || word == BACK) {
                take();
                await(IN_BRACKETS, EMIT + word);
            } else {
                fail();
            }
        }

        private void takeDue(int due) {
            if (token != due || isOpening(due) && brackets >= BRACKETS_MOST) {
                fail();
                return;
            }
            if (isOpening(due)) {
                brackets++;
            } else if (due == CLOSE || due == CLOSE_SUM) {
                brackets--;
            }
            take();
        }

        private static boolean isOpening(int sign) {
            return sign == OPEN || sign == OPEN_SUM;
        }

        private void takeNumberFor(int word) {
            int most = word == NUMBER ? CONSTANT_MOST : word == NODE ? NODE_MOST : HEAD_LAST;
            int number = numbers[at];
            if (token != NUMBER || number > most) {
                fail();
                return;
            }
            if (word == AIM_HEAD) {
                text.aimAt(number);
            } else if (word == AIM_NAME) {
                text.aimAt(FIRST_NAME + number);
            } else {
                text.emit(word, number);
                text.need(neededFor(word, number));
            }
            take();
        }

        /** The targets that a law with this word and number in it looks at, as bits. */
        private static int neededFor(int word, int number) {
            int way = 1 << number | 1 << FIRST_NEXT;
            switch (word) {
                case NAME: return 1 << FIRST_NAME + number;
                case LIST: return way;
                case FIRST_WAY: return way;
                case APART: return way;
                case LENGTH: return way;
                case TWIN: return way | 1 << FIRST_BACK;
                case RISE: return way | 1 << FIRST_KEY;
                case TOTAL: return way | 1 << FIRST_KEY;
                default: return 0;
            }
        }

        private void await(int symbol) {
            if (top < AWAITED_MOST) {
                awaited[top] = symbol;
                top++;
            }
        }

        private void await(int first, int second) {
            await(second);
            await(first);
        }

        private void await(int first, int second, int third) {
            await(third);
            await(second);
            await(first);
        }

        private void fail() {
            if (faultAt == NONE) {
                faultAt = places[at];
            }
            // Matches nothing: what is awaited still is not met by it.
            token = FAILED;
            top = 0;
        }

        private void take() {
            used++;
            goTo(at + 1);
            if (used >= TOKENS_MOST && token != BETWEEN && token != END) {
                fail();
            }
        }

        private void goTo(int place) {
            if (place < scanned) {
                at = place;
                token = tokens[at];
            }
        }

        private void scan(int[] bytes, int length) {
            scanned = 0;
            int place = 0;
            for (int i = 0; i < length && place < length; i++) {
                int behind = endOfToken(bytes, place, length);
                if (bytes[place] != ' ') {
                    scanToken(bytes, place, behind);
                }
                place = behind;
            }
            note(END, 0, length);
        }

        private static int endOfToken(int[] bytes, int place, int length) {
            int behind = place + 1;
            while (behind < length && isAlike(bytes[place], bytes[behind])) {
                behind++;
            }
            return behind;
        }

        private void scanToken(int[] bytes, int place, int behind) {
            if (isLetter(bytes[place])) {
                note(wordAt(bytes, place, behind), 0, place);
            } else if (isDigit(bytes[place])) {
                note(NUMBER, numberAt(bytes, place, behind), place);
            } else {
                note(SIGN + bytes[place], 0, place);
            }
        }

        private void note(int what, int number, int place) {
            if (scanned < tokens.length) {
                tokens[scanned] = what;
                numbers[scanned] = number;
                places[scanned] = place;
                scanned++;
            }
        }

        private static int numberAt(int[] bytes, int place, int behind) {
            int number = 0;
            for (int i = place; i < behind; i++) {
                // Digits may be many: above the largest number that can be, how large it is says nothing.
                number = Math.min(number * 10 + bytes[i] - '0', CONSTANT_MOST + 1);
            }
            return number;
        }

        private static int wordAt(int[] bytes, int place, int behind) {
            int word = 0;
            int begin = 0;
            for (int i = 0; i < WORDS.length(); i++) {
                if (WORDS.charAt(i) == ' ') {
                    if (i - begin == behind - place && isSame(bytes, place, behind, begin)) {
                        return word;
                    }
                    word++;
                    begin = i + 1;
                }
            }
            return UNKNOWN;
        }

        private static boolean isSame(int[] bytes, int place, int behind, int begin) {
            for (int i = place; i < behind; i++) {
                if (bytes[i] != WORDS.charAt(begin + i - place)) {
                    return false;
                }
            }
            return true;
        }

        /** Whether two bytes that stand together are of one token. */
        private static boolean isAlike(int one, int other) {
            return isLetter(one) && isLetter(other) || isDigit(one) && isDigit(other);
        }

        private static boolean isLetter(int b) {
            return b >= 'a' && b <= 'z';
        }

        private static boolean isDigit(int b) {
            return b >= '0' && b <= '9';
        }
    }

    /** Runs code on cells and notes which of them it read. */
    private static final class Reader {
        private int[] cells = new int[CELLS];
        private final int[] stack = new int[TOKENS_MOST];
        private int top = 0;
        // Cells read since begin(), as bits; whether next, back, key of nothing was among it.
        int read = 0;
        boolean amiss = false;
        private final int[] way = new int[NODES];
        private int wayLength = 0;
        // The next cells of the nodes on the way: one place up are their backs, two their keys.
        private int wayCells = 0;
        private boolean wayEnds = true;

        void begin(int[] ofWeb) {
            cells = ofWeb;
            read = 0;
            amiss = false;
        }

        boolean allHold(Text laws) {
            for (int law = 0; law < laws.count; law++) {
                if (run(laws, laws.start[law], laws.testEnd[law]) == 0) {
                    return false;
                }
            }
            return true;
        }

        int brokenLaws(Text laws) {
            int broken = 0;
            for (int law = 0; law < laws.count; law++) {
                if (run(laws, laws.start[law], laws.testEnd[law]) == 0) {
                    broken |= 1 << law;
                }
            }
            return broken;
        }

        int nodeOnWay(int head, int i) {
            follow(head);
            return i >= 0 && i < wayLength ? way[i] : NONE;
        }

        int run(Text text, int from, int to) {
            top = 0;
            int[] code = text.code;
            for (int i = from; i < to && i < code.length; i++) {
                int argument = code[i] & ARGUMENT_MASK;
                switch (code[i] >> ARGUMENT_BITS) {
                    case NUMBER: push(argument); break;
                    case NODE: push(argument); break;
                    case NOTHING: push(NONE); break;
                    case HEAD: push(look(argument)); break;
                    case NAME: push(look(FIRST_NAME + argument)); break;
                    case NEXT: push(lookAt(pop(), FIRST_NEXT)); break;
                    case BACK: push(lookAt(pop(), FIRST_BACK)); break;
                    case KEY: push(lookAt(pop(), FIRST_KEY)); break;
                    case LENGTH: follow(argument); push(wayLength); break;
                    case TOTAL: follow(argument); push(totalOfWay()); break;
                    case LIST: follow(argument); push(wayEnds ? 1 : 0); break;
                    case TWIN: follow(argument); push(isWayTwin() ? 1 : 0); break;
                    case RISE: follow(argument); push(isWayRising() ? 1 : 0); break;
                    case FIRST_WAY: follow(argument); push(wayCells); break;
                    case APART: follow(argument); push((pop() & wayCells) == 0 ? 1 : 0); break;
                    case NOT: push(1 - pop()); break;
                    // Of two operands the right one is popped first.
                    case PLUS: push(pop() + pop()); break;
                    case MINUS: push(-pop() + pop()); break;
                    case LESS: push(pop() > pop() ? 1 : 0); break;
                    case MORE: push(pop() < pop() ? 1 : 0); break;
                    case SAME: push(pop() == pop() ? 1 : 0); break;
                    case AND: push(pop() & pop()); break;
                    default: push(pop() | pop());
                }
            }
            return pop();
        }

        private void push(int value) {
            if (top < TOKENS_MOST) {
                stack[top] = value;
                top++;
            }
        }

        private int pop() {
            if (top <= 0) {
                return 0;
            }
            top--;
            return stack[top];
        }

        private int look(int cell) {
            if (cell < 0 || cell >= CELLS) {
                return NONE;
            }
            read |= 1 << cell;
            return cells[cell];
        }

        private int lookAt(int node, int first) {
            if (node < 0 || node >= NODES) {
                amiss = true;
                return NONE;
            }
            int cell = first + PER_NODE * node;
            read |= 1 << cell;
            return cells[cell];
        }

        private void follow(int head) {
            wayLength = 0;
            wayCells = 0;
            int node = head >= 0 && head < HEADS ? cells[head] : NONE;
            for (int i = 0; i < NODES && node >= 0; i++) {
                int next = FIRST_NEXT + PER_NODE * node;
                if ((wayCells >> next & 1) != 0) {
                    break;
                }
                wayCells |= 1 << next;
                way[wayLength] = node;
                wayLength++;
                node = cells[next];
            }
            wayEnds = node < 0;
            read |= 1 << head | wayCells;
        }

        private int totalOfWay() {
            read |= wayCells << 2;
            int total = 0;
            for (int i = 0; i < wayLength; i++) {
                total += cells[FIRST_KEY + PER_NODE * way[i]];
            }
            return total;
        }

        private boolean isWayTwin() {
            read |= wayCells << 1;
            int ahead = NONE;
            for (int i = 0; i < wayLength; i++) {
                if (cells[FIRST_BACK + PER_NODE * way[i]] != ahead) {
                    return false;
                }
                ahead = way[i];
            }
            return true;
        }

        private boolean isWayRising() {
            read |= wayCells << 2;
            int ahead = 0;
            for (int i = 0; i < wayLength; i++) {
                int key = cells[FIRST_KEY + PER_NODE * way[i]];
                if (key < ahead) {
                    return false;
                }
                ahead = key;
            }
            return true;
        }
    }

    /** What a line would do to a web, without doing it. */
    private static final class LineWork {
        private final Reader reader = new Reader();
        int outcome = WAS_PASSED;
        int cell = 0;
        int value = 0;
        int read = 0;
        int marked = 0;

        void perform(Text lines, int line, Web web) {
            outcome = WAS_PASSED;
            if (!lines.has(line)) {
                return;
            }
            reader.begin(web.cells);
            if (lines.testEnd[line] > lines.valueEnd[line]) {
                int truth = reader.run(lines, lines.valueEnd[line], lines.testEnd[line]);
                if (reader.amiss) {
                    outcome = WAS_AMISS;
                    return;
                }
                if (truth == 0) {
                    return;
                }
            }
            findCell(lines, line);
            value = reader.run(lines, lines.nodeEnd[line], lines.valueEnd[line]);
            read = reader.read;
            marked = (read & web.marks) != 0 ? 1 : 0;
            outcome = judge(lines.target[line]);
        }

        private void findCell(Text lines, int line) {
            cell = lines.target[line];
            if (cell >= FIRST_NEXT && cell < PAYMENT) {
                int node = reader.run(lines, lines.start[line], lines.nodeEnd[line]);
                if (node < 0) {
                    reader.amiss = true;
                } else {
                    cell += PER_NODE * node;
                }
            }
        }

        private int judge(int target) {
            if (reader.amiss) {
                return WAS_AMISS;
            }
            if (target == PAYMENT) {
                return marked == 1 ? WAS_HELD : WAS_PAID;
            }
            return canBe(cell, value) ? WAS_WRITTEN : WAS_AMISS;
        }
    }

    /** The latest writes, in order, and of the latest steps which line it was and whether it was amiss. */
    private static final class Journal {
        int count = 0;
        private int first = 0;
        // The step of the latest write that is kept no more.
        private int lostStep = NONE;
        private final int[] step = new int[WRITES_MOST];
        private final int[] line = new int[WRITES_MOST];
        private final int[] cell = new int[WRITES_MOST];
        private final int[] was = new int[WRITES_MOST];
        private final int[] wasMarked = new int[WRITES_MOST];
        private final int[] read = new int[WRITES_MOST];
        private final int[] stepLine = new int[STEPS_KEPT];
        private final int[] stepAmiss = new int[STEPS_KEPT];

        void become(Journal other) {
            count = other.count;
            first = other.first;
            lostStep = other.lostStep;
            System.arraycopy(other.step, 0, step, 0, WRITES_MOST);
            System.arraycopy(other.line, 0, line, 0, WRITES_MOST);
            System.arraycopy(other.cell, 0, cell, 0, WRITES_MOST);
            System.arraycopy(other.was, 0, was, 0, WRITES_MOST);
            System.arraycopy(other.wasMarked, 0, wasMarked, 0, WRITES_MOST);
            System.arraycopy(other.read, 0, read, 0, WRITES_MOST);
            System.arraycopy(other.stepLine, 0, stepLine, 0, STEPS_KEPT);
            System.arraycopy(other.stepAmiss, 0, stepAmiss, 0, STEPS_KEPT);
        }

        private int placeOf(int i) {
            return (first + i) % WRITES_MOST;
        }

        /** A write of a cell that the web still has as it was. */
        void add(int ofStep, int byLine, int ofCell, Web before, int cellsRead) {
            if (count == WRITES_MOST) {
                lostStep = step[first];
                first = placeOf(1);
                count--;
            }
            int place = placeOf(count);
            step[place] = ofStep;
            line[place] = byLine;
            cell[place] = ofCell;
            was[place] = before.cells[ofCell];
            wasMarked[place] = before.markOf(ofCell);
            read[place] = cellsRead;
            count++;
        }

        boolean isKeptFrom(int ofStep) {
            return lostStep < ofStep;
        }

        int latestLine(int ofCell) {
            for (int i = count - 1; i >= 0; i--) {
                int place = placeOf(i);
                if (cell[place] == ofCell && line[place] >= 0) {
                    return line[place];
                }
            }
            return NONE;
        }

        int writtenByLinesSince(int ofStep) {
            int cells = 0;
            for (int i = count - 1; i >= 0 && step[placeOf(i)] >= ofStep; i--) {
                int place = placeOf(i);
                if (line[place] >= 0) {
                    cells |= 1 << cell[place];
                }
            }
            return cells;
        }

        int spreadOf(int ofCell, int since) {
            int spread = 1 << ofCell;
            for (int i = 0; i < count; i++) {
                int place = placeOf(i);
                if (step[place] >= since) {
                    int bit = 1 << cell[place];
                    boolean reached = line[place] >= 0 && (read[place] & spread) != 0;
                    spread = reached ? spread | bit : spread & ~bit;
                }
            }
            return spread;
        }

        void takeBack(Web web, int from) {
            for (int i = count - 1; i >= 0 && step[placeOf(i)] >= from; i--) {
                int place = placeOf(i);
                web.cells[cell[place]] = was[place];
                web.mark(cell[place], wasMarked[place]);
                count--;
            }
        }

        void noteStep(int ofStep, int itsLine, boolean amiss) {
            int place = Math.floorMod(ofStep, STEPS_KEPT);
            stepLine[place] = itsLine;
            stepAmiss[place] = amiss ? 1 : 0;
        }

        int lineOf(int ofStep) {
            return stepLine[Math.floorMod(ofStep, STEPS_KEPT)];
        }

        boolean wasAmiss(int ofStep) {
            return stepAmiss[Math.floorMod(ofStep, STEPS_KEPT)] == 1;
        }

        void leaveOut(int ofStep) {
            stepLine[Math.floorMod(ofStep, STEPS_KEPT)] = NONE;
        }

        void loseLines() {
            Arrays.fill(stepLine, NONE);
        }
    }

    /** How it is watched and what was seen. */
    private static final class Watch {
        int how = 0;
        // The routine's lines; NONE without one.
        int from = NONE;
        int to = NONE;
        final int[] brokenSince = new int[ROWS_MOST];
        final int[] seenIn = new int[ROWS_MOST];
        final int[] late = new int[ROWS_MOST];

        Watch() {
            forget();
        }

        void forget() {
            Arrays.fill(brokenSince, NONE);
            Arrays.fill(seenIn, NONE);
            Arrays.fill(late, NONE);
        }

        void become(Watch other) {
            how = other.how;
            from = other.from;
            to = other.to;
            System.arraycopy(other.brokenSince, 0, brokenSince, 0, ROWS_MOST);
            System.arraycopy(other.seenIn, 0, seenIn, 0, ROWS_MOST);
            System.arraycopy(other.late, 0, late, 0, ROWS_MOST);
        }

        boolean isWithinRoutine(int line) {
            return line >= from && line < to;
        }

        void noteBroken(int step, int broken, int laws) {
            for (int law = 0; law < laws && law < ROWS_MOST; law++) {
                if ((broken >> law & 1) == 0) {
                    brokenSince[law] = NONE;
                    seenIn[law] = NONE;
                } else if (brokenSince[law] == NONE) {
                    brokenSince[law] = step;
                }
            }
        }

        void noteSeen(int step, int found) {
            for (int law = 0; law < ROWS_MOST; law++) {
                if ((found >> law & 1) == 1 && seenIn[law] == NONE) {
                    seenIn[law] = step;
                    late[law] = step - brokenSince[law];
                }
            }
        }
    }

    /** All that an image keeps. */
    private static final class State {
        final Web web = new Web();
        final Text laws = new Text();
        final Text lines = new Text();
        final Journal journal = new Journal();
        final Watch watch = new Watch();
        final int[] counts = new int[COUNTS];
        final int[] out = new int[OUT_MOST];
        final int[] mended = new int[CELLS];
        final int[] prices = {5, 2, 3, 2, 4};
        final int[] copyOfCells = new int[CELLS];
        boolean copied = false;
        int weightyCells = 0;
        int chance = 0;
        int lot = 0;

        void become(State other) {
            web.become(other.web);
            laws.become(other.laws);
            lines.become(other.lines);
            journal.become(other.journal);
            watch.become(other.watch);
            System.arraycopy(other.counts, 0, counts, 0, COUNTS);
            System.arraycopy(other.out, 0, out, 0, OUT_MOST);
            System.arraycopy(other.mended, 0, mended, 0, CELLS);
            System.arraycopy(other.prices, 0, prices, 0, KINDS);
            System.arraycopy(other.copyOfCells, 0, copyOfCells, 0, CELLS);
            copied = other.copied;
            weightyCells = other.weightyCells;
            chance = other.chance;
            lot = other.lot;
        }

        void write(int step, int line, int cell, int value, int marked, int read) {
            if (!isCell(cell)) {
                return;
            }
            journal.add(step, line, cell, web, read);
            web.cells[cell] = value;
            web.mark(cell, marked);
        }

        void flipTo(int step, int cell, int value) {
            write(step, BY_FLIP, cell, value, web.markOf(cell), 0);
        }

        void mendTo(int cell, int value) {
            write(counts[STEPS], BY_MEND, cell, value, 1, 0);
            mended[cell]++;
        }

        void takeBackFrom(int step) {
            journal.takeBack(web, step);
        }

        void takeOutcome(int step, int line, LineWork work) {
            journal.noteStep(step, line, work.outcome == WAS_AMISS);
            switch (work.outcome) {
                case WAS_PASSED: counts[PASSED]++; break;
                case WAS_AMISS: counts[AMISS]++; break;
                case WAS_PAID: payOut(work.value); break;
                case WAS_HELD: counts[HELD_BACK]++; break;
                default: write(step, line, work.cell, work.value, work.marked, work.read);
            }
        }

        private void payOut(int sum) {
            if (counts[PAID] < OUT_MOST) {
                out[counts[PAID]] = sum;
            }
            counts[PAID]++;
        }

        void flipByLots(int step) {
            if (chance > 0 && draw(CHANCE_MOST) < chance) {
                int cell = draw(CELLS);
                int value = isNumber(cell) ? draw(NUMBER_MOST + 1) : draw(NODES + 1) - 1;
                flipTo(step, cell, value);
                counts[LOT_FLIPS]++;
            }
        }

        private int draw(int n) {
            lot = (lot * 1103 + 12345) % 1000003;
            return n > 0 ? lot % n : 0;
        }

        int bearsOn(int line) {
            int target = 1 << lines.targetOf(line);
            int bits = 0;
            for (int law = 0; law < laws.count; law++) {
                if ((laws.needs[law] & target) != 0) {
                    bits |= 1 << law;
                }
            }
            return bits;
        }

        /** The laws, as bits, that the watch asks behind a step. */
        int lawsToAsk(int step, int line, int outcome) {
            if (watch.isWithinRoutine(line)) {
                return 0;
            }
            switch (watch.how) {
                case 1: return outcome == WAS_PASSED || outcome == WAS_AMISS ? 0 : bearsOn(line);
                case 2: return laws.count > 0 ? 1 << step % laws.count : 0;
                case 3: return (1 << laws.count) - 1;
                default: return 0;
            }
        }

        /** What a change of each cell costs, but for what the copy takes off. */
        void basePrices(int[] into) {
            int recent = journal.writtenByLinesSince(counts[STEPS] - RECENT_STEPS);
            for (int cell = 0; cell < CELLS; cell++) {
                into[cell] = prices[kindOf(cell)] - (recent >> cell & 1);
            }
        }
    }

    /** The least mends by so many cells, the first ones in order. */
    private static final class MendList {
        int size = 0;
        int total = 0;
        int found = 0;
        private int kept = 0;
        // Each mend is one number, pairs of cell and value in a row, so that numbers are in the mends' order.
        private final int[] rows = new int[MENDS_MOST];

        void clear(int cells) {
            size = cells;
            total = 0;
            found = 0;
            kept = 0;
        }

        boolean has(int i) {
            return i >= 0 && i < kept;
        }

        void add(int row, int price) {
            if (found > 0 && price < total) {
                found = 0;
                kept = 0;
            }
            total = price;
            found++;
            int at = placeFor(row);
            if (at >= MENDS_MOST) {
                return;
            }
            if (kept < MENDS_MOST) {
                kept++;
            }
            System.arraycopy(rows, at, rows, at + 1, kept - 1 - at);
            rows[at] = row;
        }

        private int placeFor(int row) {
            int low = 0;
            int high = kept;
            for (int i = 0; i < MENDS_MOST && low < high; i++) {
                int middle = (low + high) / 2;
                if (rows[middle] < row) {
                    low = middle + 1;
                } else {
                    high = middle;
                }
            }
            return low;
        }

        private int pairOf(int row, int k) {
            return row >> PAIR_BITS * (size - 1 - k) & PAIR_MASK;
        }

        int cellOf(int i, int k) {
            return pairOf(rows[i], k) >> VALUE_BITS;
        }

        int valueOf(int i, int k) {
            return (pairOf(rows[i], k) & VALUE_MASK) - 1;
        }

        boolean differIn(int weighty) {
            for (int i = 1; i < kept; i++) {
                if (weightyPairs(rows[i], weighty) != weightyPairs(rows[0], weighty)) {
                    return true;
                }
            }
            return false;
        }

        /** Each pair changes its cell: cells are the same behind two mends just if these pairs are. */
        private int weightyPairs(int row, int weighty) {
            // Begins with 1, as head 0 to nothing is a pair of noughts.
            int pairs = 1;
            for (int k = 0; k < size; k++) {
                int pair = pairOf(row, k);
                if ((weighty >> (pair >> VALUE_BITS) & 1) == 1) {
                    pairs = pairs << PAIR_BITS | pair;
                }
            }
            return pairs;
        }
    }

    /**
     * Looks for the least mends.
     *
     * A law that is broken stays so until a cell that is asked for it changes: so it is enough to branch on those.
     * A mend with fewer cells is never dearer than the same with more: so sizes are tried from below, and
     * a larger one counts only if it is cheaper.
     */
    private static final class Mender {
        private final Reader reader = new Reader();
        private final MendList[] lists = new MendList[CHANGES_MOST + 1];
        // The size of the least mends by at most so many cells; NONE if there are none.
        private final int[] sizeFor = new int[CHANGES_MOST + 1];
        // Up to how many cells it is known.
        private int known = NONE;
        private Text laws = new Text();
        private final int[] cells = new int[CELLS];
        private final int[] base = new int[CELLS];
        // What the copy has; what no cell can be, without a copy.
        private final int[] copied = new int[CELLS];
        private int cheapest = 1;
        private int size = 0;
        private int limit = 0;
        private final int[] chosen = new int[CHANGES_MOST];
        private final int[][] askedBy = new int[CHANGES_MOST][ROWS_MOST];

        Mender() {
            for (int i = 0; i <= CHANGES_MOST; i++) {
                lists[i] = new MendList();
            }
        }

        void forget() {
            known = NONE;
        }

        /** The least mends by at most m cells; null if there are none. */
        MendList leastBy(State state, int m) {
            if (m < 1 || m > CHANGES_MOST) {
                return null;
            }
            if (known == NONE) {
                begin(state);
            }
            laws = state.laws;
            for (int k = known + 1; k <= m; k++) {
                sizeFor[k] = search(k) ? k : sizeFor[k - 1];
                known = k;
            }
            return sizeFor[m] == NONE ? null : lists[sizeFor[m]];
        }

        private void begin(State state) {
            System.arraycopy(state.web.cells, 0, cells, 0, CELLS);
            state.basePrices(base);
            cheapest = PRICE_MOST;
            for (int cell = 0; cell < CELLS; cell++) {
                copied[cell] = state.copied ? state.copyOfCells[cell] : WITHOUT;
                cheapest = Math.min(cheapest, base[cell] - (state.copied ? 1 : 0));
            }
            cheapest = Math.max(cheapest, 1);
            lists[0].clear(0);
            sizeFor[0] = NONE;
            reader.begin(cells);
            if (reader.allHold(state.laws)) {
                lists[0].add(0, 0);
                sizeFor[0] = 0;
            }
            known = 0;
        }

        /** Whether mends of just so many cells are cheaper than those of fewer. */
        private boolean search(int k) {
            if (sizeFor[k - 1] == 0) {
                return false;
            }
            limit = sizeFor[k - 1] == NONE ? PRICE_MOST * CHANGES_MOST : lists[sizeFor[k - 1]].total - 1;
            size = k;
            lists[k].clear(k);
            if (limit >= cheapest * k) {
                grow(0, 0, 0);
            }
            return lists[k].found > 0;
        }

        /** Fixed are the cells, as bits, that are chosen already or stay as they are. */
        private void grow(int depth, int fixed, int paid) {
            if (depth >= size || depth >= CHANGES_MOST) {
                return;
            }
            int free = cellsToTry(depth, fixed);
            int closed = fixed;
            for (int cell = 0; cell < CELLS; cell++) {
                if ((free >> cell & 1) == 1) {
                    // Mends with this cell are all found here: behind it, it stays as it is.
                    closed |= 1 << cell;
                    tryValues(depth, cell, closed, paid);
                }
            }
        }

        /** Cells of which a mend must change one. */
        private int cellsToTry(int depth, int fixed) {
            int left = size - depth;
            int common = ~0;
            int fewest = 0;
            int fewestCount = CELLS + 1;
            for (int law = 0; law < laws.count; law++) {
                reader.begin(cells);
                int truth = reader.run(laws, laws.start[law], laws.testEnd[law]);
                askedBy[depth][law] = reader.read;
                if (truth == 0) {
                    int open = reader.read & ~fixed;
                    common &= open;
                    if (Integer.bitCount(open) < fewestCount) {
                        fewest = open;
                        fewestCount = Integer.bitCount(open);
                    }
                }
            }
            if (fewestCount > CELLS) {
                return 0;
            }
            // The last change must mend all broken laws at once.
            return left == 1 ? common : fewest;
        }

        private void tryValues(int depth, int cell, int fixed, int paid) {
            int was = cells[cell];
            int later = cheapest * (size - depth - 1);
            int highest = highestOf(cell);
            for (int value = lowestOf(cell); value <= highest; value++) {
                int price = paid + priceOf(cell, value);
                if (value == was || price + later > limit) {
                    continue;
                }
                cells[cell] = value;
                chosen[depth] = cell << VALUE_BITS | value + 1;
                if (depth + 1 < size) {
                    grow(depth + 1, fixed, price);
                } else if (holdsWith(depth, cell)) {
                    limit = price;
                    lists[size].add(rowOfChosen(), price);
                }
            }
            cells[cell] = was;
        }

        private int priceOf(int cell, int value) {
            return Math.max(1, base[cell] - (value == copied[cell] ? 1 : 0));
        }

        /** Laws for which the last cell was not asked hold as before: those that did not were left out. */
        private boolean holdsWith(int depth, int cell) {
            reader.begin(cells);
            for (int law = 0; law < laws.count; law++) {
                boolean asks = (askedBy[depth][law] >> cell & 1) == 1;
                if (asks && reader.run(laws, laws.start[law], laws.testEnd[law]) == 0) {
                    return false;
                }
            }
            return true;
        }

        private int rowOfChosen() {
            if (size == 1) {
                return chosen[0];
            }
            int low = Math.min(chosen[0], chosen[1]);
            int high = Math.max(chosen[0], chosen[1]);
            if (size == 2) {
                return low << PAIR_BITS | high;
            }
            int third = chosen[2];
            int first = Math.min(low, third);
            int last = Math.max(high, third);
            int middle = low + high + third - first - last;
            return (first << PAIR_BITS | middle) << PAIR_BITS | last;
        }
    }

    /** The lines go on, on paper, with each fault put in. */
    private static final class Paper {
        private final Reader reader = new Reader();
        private final LineWork work = new LineWork();
        private final Web web = new Web();
        private final int[] paid = new int[PAPER_MOST];
        private int paidCount = 0;
        private int held = 0;
        private final int[] duePaid = new int[PAPER_MOST];
        private int duePaidCount = 0;
        private int dueHeld = 0;
        // How many went well, held, lost, ended.
        final int[] came = new int[WENT_ENDED + 1];
        // For how many steps it is known what comes of each; 0 if for none.
        private int knownFor = 0;

        void forget() {
            knownFor = 0;
        }

        void prepare(State state, int n) {
            if (knownFor == n) {
                return;
            }
            knownFor = n;
            Arrays.fill(came, 0);
            web.become(state.web);
            goOn(state, n);
            System.arraycopy(paid, 0, duePaid, 0, PAPER_MOST);
            duePaidCount = paidCount;
            dueHeld = held;
            for (int cell = 0; cell < CELLS; cell++) {
                for (int value = lowestOf(cell); value <= highestOf(cell); value++) {
                    if (value != state.web.cells[cell]) {
                        web.become(state.web);
                        web.cells[cell] = value;
                        goOn(state, n);
                        came[whatCame(state.laws)]++;
                    }
                }
            }
        }

        private void goOn(State state, int n) {
            paidCount = 0;
            held = 0;
            int line = state.counts[NEXT_LINE];
            for (int i = 0; i < n; i++) {
                work.perform(state.lines, line, web);
                if (work.outcome == WAS_WRITTEN) {
                    web.cells[work.cell] = work.value;
                    web.mark(work.cell, work.marked);
                } else if (work.outcome == WAS_PAID && paidCount < PAPER_MOST) {
                    paid[paidCount] = work.value;
                    paidCount++;
                } else if (work.outcome == WAS_HELD) {
                    held++;
                }
                line = line + 1 < state.lines.count ? line + 1 : 0;
            }
        }

        private int whatCame(Text laws) {
            reader.begin(web.cells);
            if (!reader.allHold(laws)) {
                return WENT_ENDED;
            }
            if (isPaidAsDue()) {
                return WENT_WELL;
            }
            return held > dueHeld ? WENT_HELD : WENT_LOST;
        }

        private boolean isPaidAsDue() {
            if (paidCount != duePaidCount) {
                return false;
            }
            for (int i = 0; i < paidCount; i++) {
                if (paid[i] != duePaid[i]) {
                    return false;
                }
            }
            return true;
        }
    }
}
