/** Promises 16 to 19 at their edges. */
public final class MadeEdgesTest extends Edges {
    private static final int[] NO_PLACES = {-1, 8, 9, LEAST, GREATEST};

    public static void main(String[] args) {
        MadeEdgesTest test = new MadeEdgesTest();
        test.puts();
        test.putOntoItsOwn();
        test.refusedPuts();
        test.refusedInner();
        test.formulas();
        test.noFormulas();
        test.refusedReads();
        test.nots();
        test.lessened();
        test.turned();
        test.refusedMades();
        test.sames();
        test.order();
        test.end(16, 19);
    }

    private static void tellTimes(QuestionBench b, int v, int times) {
        for (int k = 0; k < times; k++) {
            b.tell(v);
        }
    }

    private void puts() {
        sentence(16, "INNER ones those at the PLACES that wait, in order (none wait then, whatever is answered): its bits");
        QuestionBench b = bench("10");
        tell(b, 0);
        due("the smallest put", b.put(1, 0), 1);
        dueSays("not of not", b, 1, "01");
        due("none wait then", b.count(1), 0);
        lay(b, 2, and(8));
        tell(b, 2);
        due("one inner of 8 bits", b.put(3, 0), 8);
        due("not of and", b.of(3, 2) * 10 + b.say(3, 255), 2550);
        tellTimes(b, 0, 8);
        due("eight inner of one bit", b.put(4, 2), 8);
        due("and of nots", b.of(4, 2) * 10 + b.say(4, 0), 11);
        due("their kinds", b.of(1, 0) * 100 + b.of(3, 0) * 10 + b.of(4, 0), 333);
        // bit 0 and not bit 1, over unlike inner ones, in both orders
        lay(b, 5, "0100");
        lay(b, 6, "1000");
        tell(b, 6, 0);
        due("two bits, then one", b.put(7, 5), 3);
        dueSays("put", b, 7, "00001000");
        tell(b, 0, 6);
        due("one bit, then two", b.put(7, 5), 3);
        dueSays("put", b, 7, "00101010");
        sentence(TERMS, "its bits are those of the first INNER one (from bit 0 on), then of the next");
        b = bench("0".repeat(255) + "1");
        for (int i = 0; i < 8; i++) {
            b.task(1, 1, 0);
            b.set(1, 1, 1);
            b.made(1, 2, 0, 0);
            // only inner i is a NOT, so only the INPUT without bit i is a yes
            for (int j = 0; j < 8; j++) {
                b.tell(j == i ? 2 : 1);
            }
            b.put(3, 0);
            due("the yes with inner " + i + " turned", b.of(3, 2) * 1000 + b.say(3, 255 ^ 1 << i), 1001);
        }
    }

    private void putOntoItsOwn() {
        sentence(16, "A PUT at p: OUTER the task at q");
        QuestionBench b = bench("0001");
        lay(b, 1, "01");
        tell(b, 1, 1);
        due("onto its outer", b.put(0, 0), 2);
        due("it is there", b.of(0, 0), 3);
        dueSays("put", b, 0, "0001");
        tell(b, 1, 0);
        due("onto an inner", b.put(1, 0), 3);
        dueSays("put", b, 1, "00000001");
        tell(b, 0, 0);
        due("outer, inner and place in one", b.put(0, 0), 4);
        dueSays("put", b, 0, "0".repeat(15) + "1");
        due("puts make no task elsewhere", b.count(0), 2);
        lay(b, 2, "10");
        tell(b, 2);
        b.put(3, 2);
        b.set(2, 0, 2);
        due("it stays told when an inner one changes", b.degree(3), 1);
        b.clear(2);
        dueSays("it stays when an inner one goes", b, 3, "01");
    }

    private void refusedPuts() {
        sentence(16, "BAD: no such PLACES (p, q)");
        QuestionBench b = bench("01");
        for (int p : NO_PLACES) {
            b.tell(0);
            due("put(" + p + ", 0)", b.put(p, 0), BAD);
            due("none wait then", b.count(1), 0);
            b.tell(0);
            due("put(0, " + p + ")", b.put(0, p), BAD);
            due("none wait then", b.count(1), 0);
        }
        sentence(16, "NOTHING: q has none");
        b.tell(0);
        due("put(1, 7)", b.put(1, 7), NOTHING);
        due("none wait then", b.count(1), 0);
        due("it is counted", b.count(4), 1);
        sentence(16, "BAD: as many as OUTER has bits do not wait, or one is no PLACE");
        for (int bits = 1; bits <= 8; bits++) {
            b.task(1, bits, 0);
            for (int wait : new int[] {0, bits - 1, bits + 1, 12}) {
                tellTimes(b, 0, wait);
                due("of " + bits + " bits, " + wait + " wait", b.put(2, 1), BAD);
                due("none wait then", b.count(1), 0);
            }
        }
        b = bench("01");
        lay(b, 1, "0001");
        tellTimes(b, 0, 100);
        due("100 wait", b.put(2, 1), BAD);
        due("none wait then", b.count(1), 0);
        for (int p : NO_PLACES) {
            tell(b, p, 0);
            due("the first is " + p, b.put(2, 1), BAD);
            tell(b, 0, p);
            due("the last is " + p, b.put(2, 1), BAD);
            due("none wait then", b.count(1), 0);
        }
        due("no put came of these", b.clear(2), 0);
    }

    private void refusedInner() {
        QuestionBench b = bench("0001");
        lay(b, 1, "02");
        lay(b, 2, no(7));
        lay(b, 3, no(8));
        lay(b, 4, "01");
        b.kind(4, 1);
        sentence(16, "NOTHING: one has none");
        int met = b.count(4);
        tell(b, 7, 4);
        due("the first", b.put(5, 0), NOTHING);
        tell(b, 4, 7);
        due("the last", b.put(5, 0), NOTHING);
        tell(b, 6, 7);
        due("both", b.put(5, 0), NOTHING);
        due("none wait then", b.count(1), 0);
        due("each call counts once", b.count(4) - met, 3);
        sentence(16, "OPEN: one is not TOLD");
        tell(b, 1, 4);
        due("the first inner", b.put(5, 0), OPEN);
        tell(b, 4, 1);
        due("the last inner", b.put(5, 0), OPEN);
        tell(b, 4);
        due("the outer", b.put(5, 1), OPEN);
        due("none wait then", b.count(1), 0);
        sentence(16, "BIG: more than 8 bits");
        tell(b, 2, 4);
        due("just 8", b.put(5, 0), 8);
        b.clear(5);
        tell(b, 3, 4);
        due("8 and 1", b.put(5, 0), BIG);
        tell(b, 4, 3);
        due("1 and 8", b.put(5, 0), BIG);
        tell(b, 3, 3);
        due("8 and 8", b.put(5, 0), BIG);
        tellTimes(b, 3, 8);
        due("64", b.put(5, 3), BIG);
        due("none wait then", b.count(1), 0);
        tell(b, 4, 4, 4, 4, 4, 4, 4, 0);
        due("7 times 1 and 2", b.put(5, 3), BIG);
        due("no put came of these", b.clear(5), 0);
        b.clear(4);
        lay(b, 4, "01");
        tell(b, 3, 4);
        b.put(4, 0);
        due("a refused put leaves what is at p", b.of(4, 0) * 10 + b.of(4, 1), 1);
    }

    private void dueRead(QuestionBench b, String want, int... numbers) {
        tell(b, numbers);
        String call = "read of " + java.util.Arrays.toString(numbers);
        due(call, b.read(0), Integer.numberOfTrailingZeros(want.length()));
        dueSays(call, b, 0, want);
        due("its kind", b.of(0, 0), 4);
        due("none wait then", b.count(1), 0);
    }

    private void formulas() {
        QuestionBench b = new QuestionBench();
        sentence(TERMS, "bit 0 to 7: itself");
        dueRead(b, "01", 0);
        tell(b, 7, 6, 5, 4, 3, 2, 1, 0, 11, 11, 11, 11, 11, 11, 11);
        due("the or of all eight", b.read(1), 8);
        due("its yes", b.of(1, 2) * 10 + b.say(1, 0), 2550);
        sentence(TERMS, "10 AND, 11 OR of the two latest that were told and not taken yet, 12 NOT of the latest one");
        dueRead(b, "0001", 0, 1, 10);
        dueRead(b, "0111", 1, 0, 11);
        dueRead(b, "10", 0, 12);
        dueRead(b, "01", 0, 12, 12);
        // only the latest is turned, only the two latest are joined
        dueRead(b, "0100", 0, 1, 12, 10);
        dueRead(b, "0010", 0, 12, 1, 10);
        dueRead(b, "1110", 0, 1, 10, 12);
        dueRead(b, "00010101", 0, 1, 2, 11, 10);
        dueRead(b, "00011111", 0, 1, 10, 2, 11);
        dueRead(b, "01010111", 2, 1, 10, 0, 11);
        b = new QuestionBench();
        dueRead(b, "0001000100011111", 0, 1, 10, 2, 3, 10, 11);
        // not (b0 and not (b1 or not b2)): no at 5 alone
        dueRead(b, "11111011", 0, 1, 2, 12, 11, 12, 10, 12);
    }

    private void dueNoFormula(int... numbers) {
        QuestionBench b = bench("01");
        tell(b, numbers);
        due("read of " + java.util.Arrays.toString(numbers), b.read(0), BAD);
        due("none wait then", b.count(1), 0);
        due("the task is as it was", b.of(0, 0) * 100 + b.say(0, 0) * 10 + b.say(0, 1), 1);
    }

    private void noFormulas() {
        sentence(17, "BAD: no such PLACE, or what waits is no such FORMULA");
        QuestionBench b = bench("01");
        for (int p : NO_PLACES) {
            b.tell(0);
            due("read(" + p + ")", b.read(p), BAD);
            due("none wait then", b.count(1), 0);
        }
        due("no task came of these", b.count(0), 1);
        due("none is counted", b.count(4), 0);
        for (int v : new int[] {8, 9, 13, 20, 21, -1, -2, 32, 64, LEAST, GREATEST}) {
            dueNoFormula(v);
            dueNoFormula(0, v);
            dueNoFormula(v, 0);
            dueNoFormula(0, v, 10);
            dueNoFormula(0, 1, v);
        }
        sentence(TERMS, "of the two latest that were told and not taken yet, 12 NOT of the latest one");
        dueNoFormula(10);
        dueNoFormula(11);
        dueNoFormula(12);
        dueNoFormula(12, 0);
        dueNoFormula(0, 10);
        dueNoFormula(0, 11);
        dueNoFormula(10, 0, 1);
        dueNoFormula(0, 10, 1);
        dueNoFormula(0, 1, 10, 11);
        dueNoFormula(0, 1, 10, 10, 2);
        dueNoFormula(0, 12, 10);
        sentence(TERMS, "one is left at the end");
        dueNoFormula();
        dueNoFormula(0, 1);
        dueNoFormula(0, 1, 12);
        dueNoFormula(0, 1, 10, 2);
        dueNoFormula(0, 1, 2, 11);
        dueNoFormula(0, 1, 2, 3, 4, 5, 6, 7, 10, 10, 10, 10, 10, 10);
        sentence(TERMS, "the bits are 0 to n - 1, each once");
        dueNoFormula(1);
        dueNoFormula(7);
        dueNoFormula(1, 12);
        dueNoFormula(0, 0, 10);
        dueNoFormula(0, 0);
        dueNoFormula(1, 1, 10);
        dueNoFormula(1, 2, 10);
        dueNoFormula(0, 2, 11);
        dueNoFormula(0, 1, 10, 1, 10);
        dueNoFormula(0, 1, 10, 3, 10);
        dueNoFormula(1, 2, 3, 4, 5, 6, 7, 10, 10, 10, 10, 10, 10);
        dueNoFormula(0, 1, 2, 3, 4, 5, 7, 10, 10, 10, 10, 10, 10);
    }

    private void refusedReads() {
        sentence(17, "A READ at a PLACE, by the FORMULA that waits (none wait then, whatever is answered): its bits");
        QuestionBench b = new QuestionBench();
        tell(b, 9, 0);
        b.read(7);
        b.tell(0);
        due("a refused one leaves none that wait", b.read(7), 1);
        due("read at the last place", b.of(7, 4), 101);
        tellTimes(b, 0, 100);
        due("100 that are none", b.read(7), BAD);
        due("none wait then", b.count(1), 0);
        due("read of none", b.read(7), BAD);
        due("the read is there still", b.of(7, 4), 101);
    }

    private void nots() {
        sentence(18, "how 0 NOT (OPEN stays)");
        QuestionBench b = bench("012" + "0".repeat(252) + "2");
        for (int a : new int[] {0, -1, 8, LEAST, GREATEST}) {
            due("a counts not: " + a, b.made(0, 1, 0, a), 8);
        }
        due("the first three", b.say(1, 0) * 100 + b.say(1, 1) * 10 + b.say(1, 2), 102);
        due("the last", b.say(1, 255), 2);
        due("yes and open", b.of(1, 2) * 10 + b.of(1, 3), 2532);
        sentence(18, "1 its DUAL: INPUT x says what p says of x with all bits changed, turned as by NOT");
        for (int a : new int[] {0, -1, 8, LEAST, GREATEST}) {
            due("a counts not: " + a, b.made(0, 1, 1, a), 8);
        }
        due("the last three", b.say(1, 255) * 100 + b.say(1, 254) * 10 + b.say(1, 253), 102);
        due("the first", b.say(1, 0), 2);
        lay(b, 2, "02");
        due("one bit", b.made(2, 2, 1, 0), 1);
        dueSays("the dual onto itself", b, 2, "21");
        due("not of one bit", b.made(2, 2, 0, 0), 1);
        dueSays("not onto itself", b, 2, "20");
    }

    private void lessened() {
        sentence(18, "2 bit a is 0, 3 bit a is 1 (the others move down, one bit less)");
        QuestionBench b = bench("0120");
        due("bit 0 is 0", b.made(0, 1, 2, 0), 1);
        dueSays("bit 0 is 0", b, 1, "02");
        due("bit 0 is 1", b.made(0, 1, 3, 0), 1);
        dueSays("bit 0 is 1", b, 1, "10");
        due("bit 1 is 0", b.made(0, 1, 2, 1), 1);
        dueSays("bit 1 is 0", b, 1, "01");
        due("bit 1 is 1", b.made(0, 1, 3, 1), 1);
        dueSays("bit 1 is 1", b, 1, "20");
        for (int a = 0; a < 8; a++) {
            // the one yes has bit a alone
            b = bench(with(no(8), 1 << a, 1));
            due("bit " + a + " is 0", b.made(0, 1, 2, a), 7);
            due("none is left", b.of(1, 2), 0);
            due("bit " + a + " is 1", b.made(0, 1, 3, a), 7);
            due("it is at 0", b.of(1, 2) * 10 + b.say(1, 0), 11);
            // the one yes has all bits
            b = bench(and(8));
            b.made(0, 0, 3, a);
            due("onto itself, bit " + a, b.of(0, 1) * 10000 + b.of(0, 2) * 10 + b.say(0, 127), 70011);
        }
        b = bench(MAJORITY);
        b.kind(0, 1);
        due("of a rising one", b.made(0, 1, 2, 2), 2);
        due("it is a table", b.of(1, 0) * 10 + b.of(1, 4), 2);
        due("p stays what it is", b.of(0, 0), 1);
    }

    private void turned() {
        sentence(18, "4 with bit a turned: INPUT x says what p says of x with that bit changed: its bits");
        for (int a = 0; a < 8; a++) {
            QuestionBench b = bench(with(no(8), 255, 2));
            due("bit " + a, b.made(0, 0, 4, a), 8);
            due("it is moved", b.of(0, 3) * 10 + b.say(0, 255 ^ 1 << a), 12);
            due("and back", b.made(0, 0, 4, a), 8);
            due("where it was", b.say(0, 255), 2);
        }
        QuestionBench b = bench("01");
        due("one bit", b.made(0, 1, 4, 0), 1);
        dueSays("one bit turned", b, 1, "10");
    }

    private void refusedMades() {
        QuestionBench b = bench("0001");
        lay(b, 1, "01");
        sentence(18, "BAD: no such PLACES, how");
        for (int p : NO_PLACES) {
            due("made(" + p + ", 0, 0, 0)", b.made(p, 0, 0, 0), BAD);
            due("made(0, " + p + ", 0, 0)", b.made(0, p, 0, 0), BAD);
        }
        for (int how : new int[] {-1, 5, LEAST, GREATEST}) {
            due("made(0, 1, " + how + ", 0)", b.made(0, 1, how, 0), BAD);
        }
        sentence(18, "NOTHING");
        for (int how = 0; how <= 4; how++) {
            due("made(7, 1, " + how + ", 0)", b.made(7, 1, how, 0), NOTHING);
        }
        sentence(18, "BAD: (2, 3, 4) no such bit");
        for (int how = 2; how <= 4; how++) {
            for (int a : new int[] {-1, 2, 8, 32, 33, LEAST, GREATEST}) {
                due("made(0, 1, " + how + ", " + a + ")", b.made(0, 1, how, a), BAD);
            }
        }
        sentence(18, "BIG: (2, 3) it has one bit");
        due("bit 0 is 0", b.made(1, 1, 2, 0), BIG);
        due("bit 0 is 1", b.made(1, 1, 3, 0), BIG);
        dueSays("all these", b, 1, "01");
        due("tasks", b.count(0), 2);
        due("met", b.count(4), 5);
    }

    private void sames() {
        sentence(19, "Whether two tasks have as many bits and say the same of all INPUTS: 1, 0");
        QuestionBench b = bench(with(no(8), 255, 1));
        b.move(0, 1);
        due("two of 8 bits", b.same(0, 1), 1);
        b.set(1, 255, 0);
        due("unlike at the last input", b.same(0, 1), 0);
        b.set(1, 255, 2);
        due("open is not yes", b.same(0, 1), 0);
        b.set(0, 255, 2);
        due("open and open", b.same(0, 1), 1);
        b.set(0, 0, 2);
        due("unlike at the first input", b.same(0, 1), 0);
        for (int bits = 1; bits < 8; bits++) {
            b.task(2, bits, 0);
            b.task(3, bits + 1, 0);
            due(bits + " bits and one more", b.same(2, 3), 0);
            due("the other way", b.same(3, 2), 0);
        }
        for (int kind = 1; kind <= 2; kind++) {
            b.task(2, 3, 0);
            b.move(2, 3);
            b.kind(3, kind);
            due("of unlike kinds", b.same(2, 3), 1);
        }
        due("a task and itself", b.same(7, 7), NOTHING);
        due("a task and itself", b.same(2, 2), 1);
        sentence(19, "BAD: no such PLACES");
        for (int p : NO_PLACES) {
            due("same(" + p + ", 0)", b.same(p, 0), BAD);
            due("same(0, " + p + ")", b.same(0, p), BAD);
        }
        sentence(19, "NOTHING");
        int met = b.count(4);
        due("same(0, 7)", b.same(0, 7), NOTHING);
        due("same(7, 0)", b.same(7, 0), NOTHING);
        due("same(6, 7)", b.same(6, 7), NOTHING);
        due("each call counts once", b.count(4) - met, 3);
    }

    private void order() {
        sentence(TERMS, ORDER);
        QuestionBench b = bench("0001");
        lay(b, 1, "02");
        lay(b, 2, no(8));
        lay(b, 3, "01");
        due("put: no p, no outer", b.put(8, 7), BAD);
        due("put: no outer, none wait", b.put(5, 7), NOTHING);
        b.tell(8);
        due("put: no outer, no PLACE", b.put(5, 7), NOTHING);
        tell(b, 7, 8);
        due("put: has none, no PLACE", b.put(5, 0), BAD);
        tell(b, 7);
        due("put: too few, has none", b.put(5, 0), BAD);
        tell(b, 1, 1, 1);
        due("put: too many, open ones", b.put(5, 0), BAD);
        tell(b, 1, 7);
        due("put: open, has none", b.put(5, 0), NOTHING);
        tell(b, 2, 7);
        due("put: big so far, has none", b.put(5, 0), NOTHING);
        tell(b, 7);
        due("put: outer open, inner has none", b.put(5, 1), NOTHING);
        tell(b, 2, 1);
        due("put: big, open", b.put(5, 0), OPEN);
        due("none wait then", b.count(1), 0);
        due("made: no how, NOTHING", b.made(7, 0, 5, 0), BAD);
        due("made: NOTHING, no q", b.made(7, 8, 0, 0), BAD);
        due("made: NOTHING, no bit", b.made(7, 0, 2, -1), NOTHING);
        due("made: no bit, one bit", b.made(3, 4, 2, 1), BAD);
        due("made: no bit, one bit", b.made(3, 4, 3, -1), BAD);
        due("same: NOTHING, no PLACE", b.same(7, 8), BAD);
        due("same: no PLACE, NOTHING", b.same(8, 7), BAD);
        due("met by these", b.count(4), 6);
    }
}
