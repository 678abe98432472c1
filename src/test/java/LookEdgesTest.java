/** Promises 20 to 25 at their edges. */
public final class LookEdgesTest extends Edges {
    private static final int[] NO_PLACES = {-1, 8, 9, LEAST, GREATEST};

    public static void main(String[] args) {
        LookEdgesTest test = new LookEdgesTest();
        test.settled();
        test.weights();
        test.refusedWeights();
        test.leaves();
        test.leastBits();
        test.sizes();
        test.refusedTrees();
        test.refusedNodes();
        test.runs();
        test.refusedRuns();
        test.checks();
        test.longTrees();
        test.noTrees();
        test.refusedChecks();
        test.order();
        test.end(20, 25);
    }

    private void settled() {
        sentence(TERMS, "It is SETTLED if no two of its INPUTS say 0 and 1");
        for (int bits = 1; bits <= 8; bits++) {
            int last = (1 << bits) - 1;
            String[] all = {no(bits), yes(bits), open(bits), with(open(bits), last, 0), with(open(bits), 0, 1),
                with(no(bits), 0, 2), with(yes(bits), last, 2)};
            for (String says : all) {
                QuestionBench b = bench(says);
                due("depth of " + says, b.depth(0), 0);
                due("sum of " + says, b.sum(0), 0);
                due("nodes of " + says, b.tree(0, 0) * 10 + b.tree(0, 1), 11);
            }
            QuestionBench b = bench(with(with(open(bits), last, 0), 0, 1));
            due("two of " + bits + " bits that say 0 and 1", b.depth(0), 1);
            due("their sum", b.sum(0), 1 << bits);
        }
    }

    private void weights() {
        sentence(TERMS, "Its DEPTH is 0 if it is SETTLED, else 1 more than the least");
        for (int bits = 1; bits <= 8; bits++) {
            due("depth of the parity of " + bits, bench(parity(bits)).depth(0), bits);
            due("depth of the and of " + bits, bench(and(bits)).depth(0), bits);
        }
        // all bits but one do not matter
        due("depth of bit 7", bench("0".repeat(128) + "1".repeat(128)).depth(0), 1);
        due("depth of bit 0", bench("01".repeat(128)).depth(0), 1);
        due("depth of the choice", bench(CHOICE).depth(0), 2);
        sentence(TERMS, "Its SUM is 0 if it is SETTLED, else the number of its INPUTS");
        for (int bits = 1; bits <= 8; bits++) {
            due("sum of the parity of " + bits, bench(parity(bits)).sum(0), bits << bits);
            due("sum of the and of " + bits, bench(and(bits)).sum(0), (2 << bits) - 2);
        }
        due("sum of bit 7", bench("0".repeat(128) + "1".repeat(128)).sum(0), 256);
        due("sum of bit 0", bench("01".repeat(128)).sum(0), 256);
        sentence(20, "DEPTH");
        QuestionBench b = bench(and(3));
        due("depth", b.depth(0), 3);
        b.set(0, 7, 0);
        due("when its last yes has gone", b.depth(0), 0);
        b.set(0, 0, 1);
        due("when another one has come", b.depth(0), 3);
        sentence(21, "SUM");
        due("sum", b.sum(0), 14);
        b.set(0, 0, 2);
        due("when its last yes has gone", b.sum(0), 0);
    }

    private void refusedWeights() {
        QuestionBench b = bench("01");
        sentence(20, "BAD");
        for (int p : NO_PLACES) {
            due("depth(" + p + ")", b.depth(p), BAD);
        }
        sentence(20, "NOTHING");
        due("depth(7)", b.depth(7), NOTHING);
        sentence(21, "BAD");
        for (int p : NO_PLACES) {
            due("sum(" + p + ")", b.sum(p), BAD);
        }
        sentence(21, "NOTHING");
        due("sum(7)", b.sum(7), NOTHING);
        b.depth(0);
        b.sum(0);
        b.clear(0);
        due("depth of a cleared one", b.depth(0), NOTHING);
        due("sum of a cleared one", b.sum(0), NOTHING);
        due("met", b.count(4), 4);
    }

    private void leaves() {
        sentence(TERMS, "A SETTLED CUBE's NODE says 1, 0, or 2 if all is OPEN there");
        String[] says = {no(1), yes(8), open(1), open(8), with(open(8), 255, 0), with(open(8), 0, 1), "02", "12"};
        int[] signs = {20, 21, 22, 22, 20, 21, 20, 21};
        for (int k = 0; k < says.length; k++) {
            for (int best = 0; best <= 1; best++) {
                QuestionBench b = bench(says[k]);
                due("tree of " + says[k], b.tree(0, best), 1);
                due("it says", b.node(0, 0), signs[k]);
                due("looks ahead of it", b.node(0, 1), 0);
                due("behind it", b.node(0, 2) + b.node(0, 3), -2);
            }
        }
        QuestionBench b = bench("0212");
        due("open ones beside no and yes", b.tree(0, 0), 3);
        due("says no", b.node(1, 0), 20);
        due("says yes", b.node(2, 0), 21);
        // no best look has a side that is open all through: it would settle nothing
        b = bench("01102222");
        due("half of it open", b.tree(0, 0), 7);
        due("it looks at", b.node(0, 0) * 100 + b.node(1, 0) * 10 + b.node(4, 0), 11);
        sentence(23, "0 the bit that it LOOKS at, 20, 21 or 22 when it says 0, 1 or 2");
        b = bench("2".repeat(254) + "01");
        due("two that are not open", b.tree(0, 0), 3);
        due("it looks and says", b.node(0, 0) * 10000 + b.node(1, 0) * 100 + b.node(2, 0), 2021);
        b = bench("2".repeat(126) + "1" + "2".repeat(128) + "0");
        due("two that are far apart", b.tree(0, 0), 3);
        due("it looks and says", b.node(0, 0) * 10000 + b.node(1, 0) * 100 + b.node(2, 0), 2120);
        b.set(0, 126, 2);
        b.set(0, 255, 2);
        b.tree(0, 0);
        due("it says", b.node(0, 0), 22);
    }

    private void leastBits() {
        sentence(TERMS, "another one LOOKS at the least bit by which its DEPTH comes (BEST 0), or its SUM (BEST 1)");
        for (int bits = 1; bits <= 8; bits++) {
            QuestionBench b = bench(parity(bits));
            b.tree(0, 0);
            due("of like ones the least, by DEPTH", b.node(0, 0), 0);
            b.tree(0, 1);
            due("of like ones the least, by SUM", b.node(0, 0), 0);
        }
        for (int i = 0; i < 8; i++) {
            StringBuilder says = new StringBuilder();
            for (int x = 0; x < 256; x++) {
                says.append(x >> i & 1);
            }
            QuestionBench b = bench(says.toString());
            due("the one bit that matters, by DEPTH", b.tree(0, 0) * 10 + b.node(0, 0), 30 + i);
            due("the one bit that matters, by SUM", b.tree(0, 1) * 10 + b.node(0, 0), 30 + i);
        }
        QuestionBench b = bench("00000110");
        due("bit 2, and one of bits 0 and 1: by DEPTH", b.tree(0, 0) * 10 + b.node(0, 0), 110);
        due("by SUM", b.tree(0, 1) * 10 + b.node(0, 0), 92);
        sentence(TERMS, "these ahead of those of the one in which it is 1");
        b = bench(CHOICE);
        b.tree(0, 0);
        int[] signs = {0, 1, 20, 21, 2, 20, 21};
        for (int k = 0; k < signs.length; k++) {
            due("node(" + k + ", 0)", b.node(k, 0), signs[k]);
        }
    }

    private void sizes() {
        sentence(22, "THE TREE becomes that of the task at a PLACE by BEST 0 or 1: how many NODES");
        for (int best = 0; best <= 1; best++) {
            for (int bits = 1; bits <= 8; bits++) {
                QuestionBench b = bench(parity(bits));
                due("the most nodes of " + bits + " bits", b.tree(0, best), (2 << bits) - 1);
                due("count(2)", b.count(2), (2 << bits) - 1);
                due("the looks ahead of the last", b.node((2 << bits) - 2, 1), bits);
                due("what it says", b.node((2 << bits) - 2, 0), 20 + bits % 2);
                due("its first's branches", b.node(0, 2) * 1000 + b.node(0, 3), 1000 + (1 << bits));
            }
        }
        QuestionBench b = bench(parity(8));
        b.tree(0, 1);
        lay(b, 1, "00");
        due("a small one behind a great one", b.tree(1, 0), 1);
        due("count(2)", b.count(2), 1);
        due("the great one's second node is gone", b.node(1, 0), BAD);
        due("run", b.run(255), 0);
        b.set(1, 1, 1);
        due("what becomes of the task does not matter", b.run(255), 0);
        due("a tree again", b.tree(1, 0), 3);
        due("run", b.run(255), 11);
    }

    private void refusedTrees() {
        QuestionBench b = bench("01");
        sentence(22, "BAD: no such PLACE, BEST");
        for (int p : NO_PLACES) {
            due("tree(" + p + ", 0)", b.tree(p, 0), BAD);
        }
        for (int best : new int[] {-1, 2, LEAST, GREATEST}) {
            due("tree(0, " + best + ")", b.tree(0, best), BAD);
        }
        due("there is none yet", b.run(0), BAD);
        sentence(22, "NOTHING");
        due("tree(7, 0)", b.tree(7, 0), NOTHING);
        due("tree(7, 1)", b.tree(7, 1), NOTHING);
        due("there is none yet", b.count(2), 0);
        b.tree(0, 0);
        due("tree(7, 0)", b.tree(7, 0), NOTHING);
        due("tree(0, 2)", b.tree(0, 2), BAD);
        due("THE TREE stays", b.count(2) * 100 + b.run(1), 311);
        due("met", b.count(4), 3);
    }

    private void refusedNodes() {
        sentence(23, "1 how many looks are ahead of it; 2, 3 the NODE for its bit 0, 1 (-1 without)");
        QuestionBench b = bench("0001");
        b.tree(0, 0);
        int[][] nodes = {{0, 0, 1, 2}, {20, 1, -1, -1}, {1, 1, 3, 4}, {20, 2, -1, -1}, {21, 2, -1, -1}};
        for (int k = 0; k < nodes.length; k++) {
            for (int what = 0; what < 4; what++) {
                due("node(" + k + ", " + what + ")", b.node(k, what), nodes[k][what]);
            }
        }
        sentence(23, "BAD: no such NODE, what");
        for (int k : new int[] {-1, 5, 6, 511, LEAST, GREATEST}) {
            for (int what = 0; what < 4; what++) {
                due("node(" + k + ", " + what + ")", b.node(k, what), BAD);
            }
        }
        for (int what : new int[] {-1, 4, LEAST, GREATEST}) {
            due("node(0, " + what + ")", b.node(0, what), BAD);
        }
        due("node(0, 0) of a new object", new QuestionBench().node(0, 0), BAD);
        due("none is counted", b.count(4), 0);
        b = bench(parity(8));
        b.tree(0, 0);
        due("the last of the most", b.node(510, 0), 20);
        due("behind the last of the most", b.node(511, 0), BAD);
    }

    private void runs() {
        sentence(24, "(only those bits count at which it LOOKS), and 10 times how many looks that takes");
        QuestionBench b = bench("01");
        b.tree(0, 0);
        for (int x = 0; x < 256; x++) {
            if (b.run(x) != 10 + x % 2) due("run(" + x + ")", b.run(x), 10 + x % 2);
        }
        due("run(255)", b.run(255), 11);
        b = bench("22");
        b.tree(0, 0);
        due("no look, all open", b.run(0) * 10 + b.run(255), 22);
        b = bench("11");
        b.tree(0, 0);
        due("no look, all yes", b.run(0) * 10 + b.run(255), 11);
        b = bench(parity(8));
        b.tree(0, 0);
        due("eight looks, run(0)", b.run(0), 80);
        due("eight looks, run(127)", b.run(127), 81);
        due("eight looks, run(128)", b.run(128), 81);
        due("eight looks, run(255)", b.run(255), 80);
        b = bench(and(8));
        b.tree(0, 0);
        due("as few looks as it takes: run(254)", b.run(254), 10);
        due("as few looks as it takes: run(127)", b.run(127), 80);
        due("as few looks as it takes: run(255)", b.run(255), 81);
    }

    private void refusedRuns() {
        sentence(24, "BAD: there is none, or x is not 0 .. 255");
        QuestionBench b = new QuestionBench();
        for (int x : new int[] {0, 255, -1, 256}) {
            due("run(" + x + ") of a new object", b.run(x), BAD);
        }
        lay(b, 0, "01");
        due("run(0) without a tree", b.run(0), BAD);
        b.tree(0, 0);
        for (int x : new int[] {-1, 256, 257, LEAST, GREATEST}) {
            due("run(" + x + ")", b.run(x), BAD);
        }
        due("none is counted", b.count(4), 0);
    }

    private void dueCheck(String says, int want, int... numbers) {
        QuestionBench b = bench(says);
        tell(b, numbers);
        due("check of " + java.util.Arrays.toString(numbers) + " for " + says, b.check(0), want);
        due("none wait then", b.count(1), 0);
        due("THE TREE is none of it", b.count(2), 0);
    }

    private void checks() {
        sentence(25, "0 each INPUT that isn't OPEN comes to what it says; else 1 and the least that doesn't");
        dueCheck("00", 0, 20);
        dueCheck("11", 0, 21);
        dueCheck("01", 0, 0, 20, 21);
        dueCheck("01", 1, 21);
        dueCheck("01", 2, 20);
        dueCheck("01", 1, 0, 21, 20);
        dueCheck("01", 1, 0, 21, 21);
        dueCheck(no(8), 1, 21);
        dueCheck(with(no(8), 255, 1), 256, 20);
        dueCheck(with(no(8), 255, 2), 0, 20);
        dueCheck(with(open(8), 255, 1), 256, 20);
        dueCheck(open(8), 0, 20);
        dueCheck(open(8), 0, 21);
        dueCheck("2202", 3, 21);
        dueCheck("2021", 0, 1, 20, 21);
        dueCheck("0".repeat(128) + "1".repeat(128), 0, 7, 20, 21);
        dueCheck("0".repeat(128) + "1".repeat(128), 2, 0, 20, 21);
        dueCheck("0011", 0, 0, 1, 20, 21, 1, 20, 21);
        sentence(TERMS, "a bit 0 to 7 that is looked at, 20, 21: it says 0, 1");
        dueCheck("01101001", 0, 0, 1, 2, 20, 21, 2, 21, 20, 1, 2, 21, 20, 2, 20, 21);
        dueCheck("0001", 0, 0, 20, 1, 20, 21);
        dueCheck("0111", 0, 0, 1, 20, 21, 21);
        sentence(25, "(A bit can be looked at again.)");
        dueCheck("0011", 0, 1, 1, 20, 21, 1, 20, 21);
        dueCheck("0011", 0, 1, 0, 1, 20, 21, 20, 1, 21, 21);
        dueCheck("01", 0, 0, 0, 20, 20, 0, 20, 21);
    }

    private void longTrees() {
        sentence(25, "The numbers that wait (none do then, whatever is answered) as a TREE");
        int[] right = new int[99];
        int[] left = new int[99];
        for (int k = 0; k < 49; k++) {
            right[2 * k] = 0;
            right[2 * k + 1] = 20;
            left[k] = 0;
            left[50 + k] = 21;
        }
        right[98] = 21;
        left[49] = 20;
        dueCheck("01", 0, right);
        dueCheck("01", 0, left);
        right[98] = 20;
        dueCheck("01", 2, right);
        left[49] = 21;
        dueCheck("01", 1, left);
        // 100 numbers are never one TREE, as a TREE has an odd number
        int[] full = java.util.Arrays.copyOf(left, 100);
        full[99] = 21;
        dueCheck("01", NOT_SO, full);
        dueCheck("01", NOT_SO, new int[100]);
        // all 100 wait, and the last look has one branch too few, or its two branches end just there
        full[98] = 0;
        full[99] = 20;
        dueCheck("01", NOT_SO, full);
        full[97] = 0;
        full[98] = 20;
        full[99] = 21;
        dueCheck("01", NOT_SO, full);
        QuestionBench b = bench("01");
        tell(b, 0, 20);
        b.check(0);
        b.tell(21);
        due("a refused one leaves none that wait", b.check(0), 1);
    }

    private void noTrees() {
        sentence(25, "NOT SO: they are no TREE (or more than one), or it looks at a bit that there is not");
        dueCheck("01", NOT_SO);
        dueCheck("01", NOT_SO, 0);
        dueCheck("01", NOT_SO, 0, 20);
        dueCheck("01", NOT_SO, 0, 0, 20, 21);
        dueCheck("00", NOT_SO, 20, 20);
        dueCheck("00", NOT_SO, 20, 21);
        dueCheck("01", NOT_SO, 0, 20, 21, 20);
        dueCheck("01", NOT_SO, 0, 20, 21, 0, 20, 21);
        dueCheck("01", NOT_SO, 20, 0, 20, 21);
        dueCheck("01", NOT_SO, 0, 20, 21, 0);
        for (int v : new int[] {22, 19, 10, 8, 9, -1, LEAST, GREATEST}) {
            dueCheck("22", NOT_SO, v);
            dueCheck("22", NOT_SO, v, 20, 21);
            dueCheck("22", NOT_SO, 0, v, 21);
            dueCheck("22", NOT_SO, 0, 20, v);
        }
        for (int bits = 1; bits <= 8; bits++) {
            dueCheck(open(bits), 0, bits - 1, 20, 21);
            dueCheck(open(bits), NOT_SO, bits, 20, 21);
        }
        // no INPUT comes to the look at bit 2, and yet it is one
        dueCheck("0011", NOT_SO, 1, 20, 1, 2, 20, 21, 21);
        dueCheck("2222", NOT_SO, 0, 20, 7, 20, 21);
    }

    private void refusedChecks() {
        QuestionBench b = bench("01");
        sentence(25, "BAD: no such PLACE");
        for (int p : NO_PLACES) {
            b.tell(20);
            due("check(" + p + ")", b.check(p), BAD);
            due("none wait then", b.count(1), 0);
        }
        sentence(25, "NOTHING");
        b.tell(20);
        due("check(7)", b.check(7), NOTHING);
        due("none wait then", b.count(1), 0);
        due("it is counted", b.count(4), 1);
        b.check(0);
        due("NOT SO is not", b.count(4), 1);
        dueSays("check", b, 0, "01");
    }

    private void order() {
        sentence(TERMS, ORDER);
        QuestionBench b = bench("01");
        due("tree: no BEST, NOTHING", b.tree(7, 2), BAD);
        b.tell(99);
        due("check: no PLACE, no TREE", b.check(8), BAD);
        b.tell(99);
        due("check: NOTHING, no TREE", b.check(7), NOTHING);
        due("met by these", b.count(4), 1);
    }
}
