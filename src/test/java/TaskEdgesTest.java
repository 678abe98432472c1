/** Promises 7 to 15 at their edges. */
public final class TaskEdgesTest extends Edges {
    private static final int[] NO_PLACES = {-1, 8, 9, LEAST, GREATEST};

    public static void main(String[] args) {
        TaskEdgesTest test = new TaskEdgesTest();
        test.taken();
        test.refusedToTake();
        test.kinds();
        test.refusedKinds();
        test.shownPairs();
        test.shownOpen();
        test.shownNone();
        test.said();
        test.setValues();
        test.setKinds();
        test.refusedToSet();
        test.numbersOf();
        test.worths();
        test.cleared();
        test.moved();
        test.told();
        test.order();
        test.end(7, 15);
    }

    private void taken() {
        sentence(7, "INPUT x says 1 if number x of a SHEET is above 0, 0 if it is 0, else");
        for (int sort = 0; sort < 4; sort++) {
            QuestionBench b = new QuestionBench();
            b.sheet(0, sort, 8);
            long half = sort == 3 ? Long.MIN_VALUE : -(1L << (8 << sort) - 1);
            long[] values = {1, 0, -1, half, -(half + 1), 2, -2, 0};
            for (int i = 0; i < 8; i++) {
                b.write(0, i, values[i]);
            }
            due("open, sort " + sort, b.task(0, 3, 0), 3);
            dueSays("sort " + sort, b, 0, "10221120");
        }
        sentence(7, "(or if the SHEET ends ahead of it) it is OPEN");
        for (int bits = 1; bits <= 8; bits++) {
            QuestionBench b = new QuestionBench();
            int inputs = 1 << bits;
            for (int n : new int[] {0, 1, inputs - 1, inputs, Math.min(256, inputs + 1)}) {
                b.sheet(0, 0, n);
                String call = "task of " + bits + " bits by " + n + " numbers";
                due(call, b.task(0, bits, 0), Math.max(0, inputs - n));
                due(call + ", the last that has one", b.say(0, Math.min(n, inputs) - 1), n == 0 ? PLACE : 0);
                due(call + ", the next", b.say(0, Math.min(n, inputs)), n < inputs ? 2 : PLACE);
                due(call + ", how many are open", b.of(0, 3), Math.max(0, inputs - n));
            }
        }
        sentence(7, "of a MISSING one all say 0: how many INPUTS are OPEN");
        for (int bits = 1; bits <= 8; bits++) {
            QuestionBench b = new QuestionBench();
            due("task(7, " + bits + ", 5)", b.task(7, bits, 5), 0);
            due("yes and open", b.of(7, 2) + b.of(7, 3), 0);
            due("its bits", b.of(7, 1), bits);
            due("its last input", b.say(7, (1 << bits) - 1), 0);
            b.sheet(5, 0, 256);
            b.write(5, 0, 1);
            b.lose(5);
            due("of a lost one", b.task(7, bits, 5), 0);
            due("its first input", b.say(7, 0), 0);
        }
        sentence(7, "A TABLE of so many bits at a PLACE");
        QuestionBench b = new QuestionBench();
        tell(b, 0, 1, 10);
        b.read(3);
        due("task at a READ's place", b.task(3, 1, 0), 0);
        due("its kind, bits, worth", b.of(3, 0) * 100 + b.of(3, 1) * 10 + b.of(3, 4), 11);
        b.sheet(0, 0, 2);
        b.write(0, 0, 1);
        b.task(3, 1, 0);
        b.write(0, 0, 0);
        b.lose(0);
        due("what becomes of the sheet does not matter", b.say(3, 0), 1);
    }

    private void refusedToTake() {
        sentence(7, "BAD: no such PLACE, SHEET, or bits are not 1 .. 8");
        QuestionBench b = bench("01");
        for (int p : NO_PLACES) {
            due("task(" + p + ", 1, 0)", b.task(p, 1, 0), BAD);
        }
        for (int s : new int[] {-1, 6, LEAST, GREATEST}) {
            due("task(0, 1, " + s + ")", b.task(0, 1, s), BAD);
        }
        for (int bits : new int[] {0, 9, -1, 32, 33, -31, LEAST, GREATEST}) {
            due("task(0, " + bits + ", 0)", b.task(0, bits, 0), BAD);
        }
        dueSays("all these", b, 0, "01");
        due("no task came of these", b.count(0), 1);
        due("none is counted", b.count(4), 0);
    }

    /** The AND of two bits as a task of each KIND: it is RISING and LEVEL, too. */
    private static QuestionBench andOfKind(int kind) {
        QuestionBench b = bench("0001");
        if (kind == 3) {
            lay(b, 1, "01");
            tell(b, 1, 1);
            b.put(0, 0);
        } else if (kind == 4) {
            tell(b, 0, 1, 10);
            b.read(0);
        } else {
            b.kind(0, kind);
        }
        return b;
    }

    private void kinds() {
        sentence(8, "The task at a PLACE becomes of a KIND, 0 to 2: its KIND before");
        for (int from = 0; from <= 4; from++) {
            for (int to = 0; to <= 2; to++) {
                QuestionBench b = andOfKind(from);
                due("its kind", b.of(0, 0), from);
                due("kind(0, " + to + ") of kind " + from, b.kind(0, to), from);
                due("its kind then", b.of(0, 0), to);
                due("its worth then", b.of(0, 4), to == 0 ? 2 : 12);
                dueSays("kind(0, " + to + ")", b, 0, "0001");
            }
        }
        QuestionBench b = bench("2012");
        due("an open task as a table", b.kind(0, 0), 0);
        sentence(TERMS, "RISING under TABLE: TOLD, and no INPUT with a bit more says 0 where the one without says 1");
        dueKind("00", 1, 0);
        dueKind("11", 1, 0);
        dueKind("01", 1, 0);
        dueKind("10", 1, NOT_SO);
        dueKind(no(8), 1, 0);
        dueKind(yes(8), 1, 0);
        dueKind(and(8), 1, 0);
        dueKind(with(yes(8), 0, 0), 1, 0);
        dueKind(with(yes(8), 255, 0), 1, NOT_SO);
        dueKind(with(no(8), 0, 1), 1, NOT_SO);
        dueKind(with(no(8), 254, 1), 1, NOT_SO);
        // two that say 0 and 1 without one bit more between them are no matter
        dueKind("0011", 1, 0);
        dueKind("0101", 1, 0);
        dueKind("0100", 1, NOT_SO);
        sentence(TERMS, "LEVEL under TABLE: TOLD, and INPUTS with as many 1s say the same");
        for (String says : new String[] {"00", "01", "10", "11", "0110", "1001", PARITY, MAJORITY, parity(8), no(8), yes(8)}) {
            dueKind(says, 2, 0);
        }
        for (String says : new String[] {"0100", "0010", CHOICE, with(no(8), 254, 1), with(yes(8), 1, 0)}) {
            dueKind(says, 2, NOT_SO);
        }
        sentence(TERMS, "It is TOLD if no INPUT is OPEN");
        for (int bits = 1; bits <= 8; bits++) {
            dueKind(with(no(bits), 0, 2), 1, NOT_SO);
            dueKind(with(yes(bits), (1 << bits) - 1, 2), 1, NOT_SO);
            dueKind(with(no(bits), 0, 2), 2, NOT_SO);
            dueKind(with(yes(bits), (1 << bits) - 1, 2), 2, NOT_SO);
            dueKind(open(bits), 2, NOT_SO);
        }
    }

    private void dueKind(String says, int kind, int want) {
        QuestionBench b = bench(says);
        due("kind " + kind + " of " + says, b.kind(0, kind), want);
        due("its kind then", b.of(0, 0), want == NOT_SO ? 0 : kind);
    }

    private void refusedKinds() {
        sentence(8, "BAD: no such PLACE, KIND");
        QuestionBench b = bench("01");
        b.kind(0, 2);
        for (int p : NO_PLACES) {
            due("kind(" + p + ", 0)", b.kind(p, 0), BAD);
        }
        for (int kind : new int[] {-1, 3, 4, 5, LEAST, GREATEST}) {
            due("kind(0, " + kind + ")", b.kind(0, kind), BAD);
        }
        due("its kind", b.of(0, 0), 2);
        sentence(8, "NOTHING");
        due("kind(7, 0)", b.kind(7, 0), NOTHING);
        b.clear(0);
        due("kind of a cleared one", b.kind(0, 2), NOTHING);
        sentence(8, "NOT SO: it is not so (shown() tells)");
        lay(b, 1, PARITY);
        b.kind(1, 2);
        due("a level one that does not rise", b.kind(1, 1), NOT_SO);
        due("is level still", b.of(1, 0), 2);
        due("with its worth", b.of(1, 4), 13);
        due("shown(0)", b.shown(0), 1);
        tell(b, 1, 12, 0, 10);
        b.read(2);
        due("a read that is neither", b.kind(2, 1), NOT_SO);
        due("nor level", b.kind(2, 2), NOT_SO);
        due("is a read still", b.of(2, 0) * 1000 + b.of(2, 4), 4102);
        due("NOT SO is not counted", b.count(4), 2);
    }

    private void dueShown(String says, int kind, int first, int second) {
        QuestionBench b = bench(says);
        due("kind " + kind + " of " + says, b.kind(0, kind), NOT_SO);
        due("first of " + says, b.shown(0), first);
        due("second of " + says, b.shown(1), second);
    }

    private void shownPairs() {
        sentence(9, "two that say 1 and 0, the first with a bit less (RISING)");
        dueShown("10", 1, 0, 1);
        dueShown("0010", 1, 2, 3);
        dueShown(with(yes(8), 255, 0), 1, 127, 255);
        dueShown(with(no(8), 0, 1), 1, 0, 1);
        dueShown(with(no(8), 254, 1), 1, 254, 255);
        dueShown(with(no(8), 128, 1), 1, 128, 129);
        sentence(9, "or with as many 1s as the second (LEVEL)");
        dueShown("0100", 2, 1, 2);
        dueShown("0010", 2, 2, 1);
        dueShown(with(no(8), 128, 1), 2, 128, 1);
        dueShown(with(yes(8), 128, 0), 2, 1, 128);
        dueShown(with(no(8), 254, 1), 2, 254, 127);
        sentence(9, "of all such pairs the one with the least first, then the least second one");
        dueShown("01000011", 1, 1, 3);
        dueShown("11111110", 1, 3, 7);
        dueShown("10010000", 1, 0, 1);
        dueShown("11010000", 1, 0, 2);
        // three INPUTS have one 1: 1, 2 and 4
        dueShown("00100000", 2, 2, 1);
        dueShown("01000000", 2, 1, 2);
        dueShown("01100000", 2, 1, 4);
        dueShown("00001000", 2, 4, 1);
    }

    private void shownOpen() {
        sentence(9, "when one is OPEN: the least OPEN one, twice");
        for (int kind = 1; kind <= 2; kind++) {
            dueShown("1002", kind, 3, 3);
            dueShown("0122", kind, 2, 2);
            dueShown("20", kind, 0, 0);
            dueShown("12", kind, 1, 1);
            dueShown(with(no(8), 255, 2), kind, 255, 255);
            dueShown(open(8), kind, 0, 0);
        }
        sentence(9, "The INPUT (i 0, 1) that the latest kind() with NOT SO shows");
        QuestionBench b = bench("0100");
        lay(b, 1, "2222");
        b.kind(0, 2);
        due("kind(0, 0)", b.kind(0, 0), 0);
        due("a kind() that is so leaves it", b.shown(0) * 10 + b.shown(1), 12);
        b.kind(7, 1);
        b.kind(8, 1);
        b.kind(0, 3);
        due("findings leave it", b.shown(0) * 10 + b.shown(1), 12);
        b.set(0, 1, 0);
        b.clear(0);
        b.keep();
        b.back();
        due("what becomes of the task does not matter", b.shown(0) * 10 + b.shown(1), 12);
        b.kind(1, 1);
        due("the next one takes its place", b.shown(0) * 10 + b.shown(1), 0);
    }

    private void shownNone() {
        sentence(9, "-1 when there was none yet");
        QuestionBench b = bench("01");
        due("shown(0)", b.shown(0), -1);
        due("shown(1)", b.shown(1), -1);
        b.kind(0, 1);
        b.kind(0, 3);
        b.kind(7, 1);
        due("behind other kind()s", b.shown(0) + b.shown(1), -2);
        sentence(9, "BAD: i is not 0, 1");
        int[] wrong = {-1, 2, LEAST, GREATEST};
        for (int i : wrong) {
            due("shown(" + i + ") when none is", b.shown(i), BAD);
        }
        lay(b, 0, "10");
        b.kind(0, 1);
        for (int i : wrong) {
            due("shown(" + i + ")", b.shown(i), BAD);
        }
        due("shown(1)", b.shown(1), 1);
        due("none is counted but kind()'s NOTHING", b.count(4), 1);
    }

    private void said() {
        sentence(10, "What INPUT x of the task at a PLACE says");
        QuestionBench b = bench("012" + "0".repeat(252) + "1");
        due("say(0, 0)", b.say(0, 0), 0);
        due("say(0, 1)", b.say(0, 1), 1);
        due("say(0, 2)", b.say(0, 2), 2);
        due("say(0, 255)", b.say(0, 255), 1);
        sentence(10, "BAD: no such PLACE");
        for (int p : NO_PLACES) {
            due("say(" + p + ", 0)", b.say(p, 0), BAD);
        }
        sentence(10, "NOTHING");
        due("say(7, 0)", b.say(7, 0), NOTHING);
        sentence(10, "PLACE: no such INPUT");
        for (int bits = 1; bits <= 8; bits++) {
            b.task(1, bits, 0);
            for (int x : new int[] {-1, 1 << bits, 256, LEAST, GREATEST}) {
                due("say(1, " + x + ") of " + bits + " bits", b.say(1, x), PLACE);
            }
            due("the last of " + bits + " bits", b.say(1, (1 << bits) - 1), 0);
        }
        due("met", b.count(4), 41);
    }

    private void setValues() {
        sentence(11, "What INPUT x says becomes v (0 to 2)");
        for (int bits = 1; bits <= 8; bits += 7) {
            int last = (1 << bits) - 1;
            QuestionBench b = new QuestionBench();
            b.task(0, bits, 0);
            int[] path = {0, 1, 1, 2, 2, 0, 2, 1, 0};
            int before = 0;
            for (int v : path) {
                due("set(0, 0, " + v + ")", b.set(0, 0, v), before);
                due("set(0, " + last + ", " + v + ")", b.set(0, last, v), before);
                due("it says", b.say(0, 0) * 10 + b.say(0, last), v * 11);
                due("how many say 1", b.of(0, 2), v == 1 ? 2 : 0);
                due("how many are open", b.of(0, 3), v == 2 ? 2 : 0);
                before = v;
            }
        }
    }

    private void setKinds() {
        sentence(11, "a task of another KIND becomes a TABLE: what it said");
        for (int kind = 0; kind <= 4; kind++) {
            QuestionBench b = andOfKind(kind);
            due("set of kind " + kind + " to what it says", b.set(0, 3, 1), 1);
            due("its kind and worth then", b.of(0, 0) * 100 + b.of(0, 4), 2);
            dueSays("set", b, 0, "0001");
            b = andOfKind(kind);
            due("set of kind " + kind, b.set(0, 0, 2), 0);
            due("its kind and worth then", b.of(0, 0) * 100 + b.of(0, 4), 2);
            dueSays("set", b, 0, "2001");
        }
    }

    private void refusedToSet() {
        QuestionBench b = andOfKind(4);
        sentence(11, "BAD: no such PLACE, v");
        for (int p : NO_PLACES) {
            due("set(" + p + ", 0, 0)", b.set(p, 0, 0), BAD);
        }
        for (int v : new int[] {-1, 3, 256, 257, -255, LEAST, GREATEST}) {
            due("set(0, 0, " + v + ")", b.set(0, 0, v), BAD);
        }
        sentence(11, "NOTHING");
        due("set(7, 0, 0)", b.set(7, 0, 0), NOTHING);
        due("nothing is there still", b.clear(7), 0);
        sentence(11, "PLACE");
        for (int x : new int[] {-1, 4, 255, 256, LEAST, GREATEST}) {
            due("set(0, " + x + ", 1)", b.set(0, x, 1), PLACE);
        }
        due("a refused set leaves the kind and worth", b.of(0, 0) * 1000 + b.of(0, 4), 4102);
        dueSays("a refused set", b, 0, "0001");
        due("met", b.count(4), 7);
    }

    private void numbersOf() {
        sentence(12, "0 its KIND, 1 its bits, 2 how many INPUTS say 1, 3 how many are OPEN");
        for (int bits = 1; bits <= 8; bits++) {
            int inputs = 1 << bits;
            dueOf(no(bits), bits, 0, 0);
            dueOf(yes(bits), bits, inputs, 0);
            dueOf(open(bits), bits, 0, inputs);
            dueOf(with(open(bits), inputs - 1, 1), bits, 1, inputs - 1);
            dueOf(with(yes(bits), 0, 2), bits, inputs - 1, 1);
        }
        for (int kind = 0; kind <= 4; kind++) {
            QuestionBench b = andOfKind(kind);
            due("its kind", b.of(0, 0), kind);
            due("its bits, yes, open", b.of(0, 1) * 100 + b.of(0, 2) * 10 + b.of(0, 3), 210);
        }
        QuestionBench b = bench("01");
        sentence(12, "BAD: no such PLACE, what");
        for (int p : NO_PLACES) {
            due("of(" + p + ", 0)", b.of(p, 0), BAD);
        }
        for (int what : new int[] {-1, 5, LEAST, GREATEST}) {
            due("of(0, " + what + ")", b.of(0, what), BAD);
        }
        sentence(12, "NOTHING");
        for (int what = 0; what <= 4; what++) {
            due("of(7, " + what + ")", b.of(7, what), NOTHING);
        }
    }

    private void dueOf(String says, int bits, int yes, int open) {
        QuestionBench b = bench(says);
        due("kind of " + says, b.of(0, 0), 0);
        due("bits of " + says, b.of(0, 1), bits);
        due("yes of " + says, b.of(0, 2), yes);
        due("open of " + says, b.of(0, 3), open);
    }

    private void worths() {
        sentence(12, "4 its worth: of a TABLE its bits, of RISING and LEVEL 10 more");
        for (int bits = 1; bits <= 8; bits++) {
            QuestionBench b = bench(no(bits));
            due("table", b.of(0, 4), bits);
            b.kind(0, 1);
            due("rising", b.of(0, 4), bits + 10);
            b.kind(0, 2);
            due("level", b.of(0, 4), bits + 10);
        }
        sentence(12, "of READ 100 more than its bits");
        QuestionBench b = new QuestionBench();
        tell(b, 0);
        b.read(0);
        due("one bit", b.of(0, 4), 101);
        tell(b, 0, 1, 2, 3, 4, 5, 6, 7, 10, 10, 10, 10, 10, 10, 10);
        b.read(1);
        due("eight bits", b.of(1, 4), 108);
        sentence(12, "of PUT as many as its INNER tasks' worths together");
        tell(b, 1);
        due("a put of one", b.put(2, 0), 8);
        due("its worth: the outer's counts not", b.of(2, 4), 108);
        tell(b, 0, 0, 0, 0, 0, 0, 0, 0);
        due("a put of eight", b.put(3, 1), 8);
        due("its worth", b.of(3, 4), 808);
        tell(b, 3);
        b.put(4, 0);
        due("a put of a put", b.of(4, 4), 808);
        lay(b, 5, "01");
        b.kind(5, 1);
        tell(b, 5);
        b.put(6, 5);
        due("a put of a rising one", b.of(6, 4), 11);
        b.kind(5, 0);
        due("it is made of what was there", b.of(6, 4), 11);
    }

    private void cleared() {
        sentence(13, "1 if one was, else 0");
        QuestionBench b = new QuestionBench();
        for (int p = 0; p < 8; p++) {
            due("clear(" + p + ") of a new object", b.clear(p), 0);
        }
        for (int p = 0; p < 8; p++) {
            b.task(p, 1, 0);
        }
        for (int p = 0; p < 8; p++) {
            due("clear(" + p + ")", b.clear(p), 1);
            due("clear(" + p + ") again", b.clear(p), 0);
            due("tasks left", b.count(0), 7 - p);
        }
        sentence(13, "BAD");
        b.task(0, 1, 0);
        b.task(7, 1, 0);
        for (int p : NO_PLACES) {
            due("clear(" + p + ")", b.clear(p), BAD);
        }
        due("tasks", b.count(0), 2);
        due("clear never meets NOTHING", b.count(4), 0);
    }

    private void moved() {
        sentence(14, "The task at p is at q, too: its bits");
        for (int kind = 0; kind <= 4; kind++) {
            QuestionBench b = andOfKind(kind);
            int worth = b.of(0, 4);
            lay(b, 7, no(8));
            due("move(0, 7)", b.move(0, 7), 2);
            due("kind and worth at 7", b.of(7, 0) * 1000 + b.of(7, 4), kind * 1000 + worth);
            due("kind and worth at 0", b.of(0, 0) * 1000 + b.of(0, 4), kind * 1000 + worth);
            due("move(7, 7)", b.move(7, 7), 2);
            dueSays("move", b, 7, "0001");
            b.clear(0);
            dueSays("move and clear", b, 7, "0001");
        }
        QuestionBench b = bench(with(open(8), 255, 1));
        due("an open one of 8 bits", b.move(0, 1), 8);
        due("its last input", b.say(1, 255), 1);
        lay(b, 0, "01");
        due("one of one bit onto one of 8", b.move(0, 1), 1);
        due("its third input", b.say(1, 2), PLACE);
        sentence(14, "BAD: no such PLACES");
        for (int p : NO_PLACES) {
            due("move(" + p + ", 0)", b.move(p, 0), BAD);
            due("move(0, " + p + ")", b.move(0, p), BAD);
        }
        sentence(14, "NOTHING");
        due("move(7, 0)", b.move(7, 0), NOTHING);
        due("move(7, 7)", b.move(7, 7), NOTHING);
        dueSays("a refused move", b, 0, "01");
    }

    private void told() {
        sentence(15, "One more number waits: how many");
        QuestionBench b = new QuestionBench();
        int[] numbers = {LEAST, GREATEST, -1, 0, 100, 22};
        for (int k = 1; k <= 100; k++) {
            due("tell", b.tell(numbers[k % numbers.length]), k);
            due("count(1)", b.count(1), k);
        }
        sentence(15, "BAD: 100 wait");
        due("the 101st", b.tell(0), BAD);
        due("the 102nd", b.tell(0), BAD);
        due("100 wait", b.count(1), 100);
        due("none is counted", b.count(4), 0);
        sentence(TERMS, "NUMBERS that are told wait, 100 at most, till a call takes them all");
        b.task(0, 1, 0);
        b.depth(0);
        b.keep();
        b.back();
        b.tree(0, 0);
        due("other calls leave them", b.count(1), 100);
        b.read(0);
        due("read() takes them", b.count(1), 0);
        due("tell", b.tell(0), 1);
        b.check(0);
        due("check() takes them", b.count(1), 0);
        due("tell", b.tell(0), 1);
        b.put(0, 0);
        due("put() takes them", b.count(1), 0);
        // 8 bits, 7 times AND, and an odd number of NOTs: a FORMULA of just 100 numbers
        tell(b, 0, 1, 2, 3, 4, 5, 6, 7, 10, 10, 10, 10, 10, 10, 10);
        for (int k = 16; k <= 100; k++) {
            b.tell(12);
        }
        due("the 101st would undo it", b.tell(12), BAD);
        due("a formula of 100 numbers", b.read(1), 8);
        due("not of the and of 8 bits", b.of(1, 2) * 10 + b.say(1, 255), 2550);
    }

    private void order() {
        sentence(TERMS, ORDER);
        QuestionBench b = bench("01");
        due("kind: no KIND, NOTHING", b.kind(7, 3), BAD);
        due("say: NOTHING, PLACE", b.say(7, -1), NOTHING);
        due("set: no v, NOTHING", b.set(7, 0, 3), BAD);
        due("set: no v, PLACE", b.set(0, 2, 3), BAD);
        due("set: NOTHING, PLACE", b.set(7, -1, 0), NOTHING);
        due("of: no what, NOTHING", b.of(7, 5), BAD);
        due("move: NOTHING, no PLACE", b.move(7, 8), BAD);
        due("met by these", b.count(4), 2);
    }
}
