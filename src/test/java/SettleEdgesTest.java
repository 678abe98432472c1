/** Promises 26 to 33 at their edges. */
public final class SettleEdgesTest extends Edges {
    private static final int[] NO_PLACES = {-1, 8, 9, LEAST, GREATEST};
    private static final int[] NO_WHATS = {-1, 3, LEAST, GREATEST};
    private static final int[] NO_SETS = {-1, -255, -256, 256, 257, 511, LEAST, GREATEST};
    /** At 0 four pairs of bits are blocks, and no bit is sensitive. */
    private static final String PAIRS = with(with(with(with(no(8), 3, 1), 12, 1), 48, 1), 192, 1);

    public static void main(String[] args) {
        SettleEdgesTest test = new SettleEdgesTest();
        test.ats();
        test.refusedAts();
        test.mosts();
        test.refusedMosts();
        test.wheres();
        test.refusedWheres();
        test.polys();
        test.refusedPolys();
        test.degrees();
        test.signs();
        test.refusedSigns();
        test.energies();
        test.pulls();
        test.order();
        test.end(26, 33);
    }

    private void dueAt(String says, int x, int sensitive, int blocks, int proof) {
        QuestionBench b = bench(says);
        due("sensitive at " + x + " of " + says, b.at(0, 0, x), sensitive);
        due("blocks at " + x + " of " + says, b.at(0, 1, x), blocks);
        due("proof at " + x + " of " + says, b.at(0, 2, x), proof);
    }

    private void ats() {
        sentence(26, "what 0 how many bits are SENSITIVE, 1 BLOCKS, 2 PROOF");
        for (int bits = 1; bits <= 8; bits++) {
            int last = (1 << bits) - 1;
            dueAt(no(bits), 0, 0, 0, 0);
            dueAt(yes(bits), last, 0, 0, 0);
            dueAt(parity(bits), 0, bits, bits, bits);
            dueAt(parity(bits), last, bits, bits, bits);
            dueAt(and(bits), last, bits, bits, bits);
            dueAt(and(bits), 0, bits == 1 ? 1 : 0, 1, 1);
            dueAt(and(bits), last - 1, 1, 1, 1);
        }
        dueAt(PAIRS, 0, 0, 4, 4);
        // at 1 all blocks but bit 1 have bit 0
        dueAt(PAIRS, 1, 1, 2, 2);
        // the pairs of three bits meet one another, so no two of them are apart
        dueAt(MAJORITY, 0, 0, 1, 2);
        dueAt(MAJORITY, 7, 0, 1, 2);
        dueAt(MAJORITY, 3, 2, 2, 2);
        // all bits together are a block, and the one bit beside them is
        dueAt("0".repeat(127) + "1" + "1".repeat(128), 0, 1, 2, 2);
    }

    private void refusedAts() {
        QuestionBench b = bench("01");
        sentence(26, "BAD: no such PLACE, what");
        for (int p : NO_PLACES) {
            due("at(" + p + ", 0, 0)", b.at(p, 0, 0), BAD);
        }
        for (int what : NO_WHATS) {
            due("at(0, " + what + ", 0)", b.at(0, what, 0), BAD);
        }
        sentence(26, "NOTHING");
        due("at(7, 0, 0)", b.at(7, 0, 0), NOTHING);
        sentence(26, "OPEN");
        for (int bits = 1; bits <= 8; bits++) {
            lay(b, 1, with(no(bits), (1 << bits) - 1, 2));
            lay(b, 2, with(no(bits), 0, 2));
            for (int what = 0; what < 3; what++) {
                due("the last of " + bits + " bits", b.at(1, what, 0), OPEN);
                due("the first of " + bits + " bits", b.at(2, what, 1), OPEN);
            }
        }
        sentence(26, "PLACE");
        for (int bits = 1; bits <= 8; bits++) {
            b.task(1, bits, 0);
            for (int what = 0; what < 3; what++) {
                due("behind the last of " + bits + " bits", b.at(1, what, 1 << bits), PLACE);
                due("the last of " + bits + " bits", b.at(1, what, (1 << bits) - 1), 0);
            }
        }
        for (int x : new int[] {-1, 2, 256, LEAST, GREATEST}) {
            due("at(0, 0, " + x + ")", b.at(0, 0, x), PLACE);
        }
        due("met", b.count(4), 1 + 24 + 5);
    }

    private void mosts() {
        sentence(27, "The greatest of these over all INPUTS that say side (0, 1), or all (2): 0 without any");
        for (int bits = 1; bits <= 8; bits++) {
            for (int what = 0; what < 3; what++) {
                QuestionBench b = bench(no(bits));
                due("of no, those that say 1", b.most(0, what, 1), 0);
                due("of no, all", b.most(0, what, 2) + b.most(0, what, 0), 0);
                b = bench(yes(bits));
                due("of yes, those that say 0", b.most(0, what, 0), 0);
                due("of yes, all", b.most(0, what, 2) + b.most(0, what, 1), 0);
                b = bench(and(bits));
                due("of and, those that say 0", b.most(0, what, 0), 1);
                due("of and, those that say 1", b.most(0, what, 1), bits);
                due("of and, all", b.most(0, what, 2), bits);
                b = bench(parity(bits));
                due("of the parity", b.most(0, what, 0) * 100 + b.most(0, what, 1) * 10 + b.most(0, what, 2), bits * 111);
            }
        }
        QuestionBench b = bench(PAIRS);
        due("of pairs, sensitive", b.most(0, 0, 0) * 100 + b.most(0, 0, 1) * 10 + b.most(0, 0, 2), 188);
        due("of pairs, blocks", b.most(0, 1, 0) * 100 + b.most(0, 1, 1) * 10 + b.most(0, 1, 2), 488);
        due("of pairs, proof", b.most(0, 2, 0) * 100 + b.most(0, 2, 1) * 10 + b.most(0, 2, 2), 488);
        b = bench(MAJORITY);
        due("of the majority", b.most(0, 0, 0) * 100 + b.most(0, 1, 0) * 10 + b.most(0, 2, 0), 222);
        // only the last INPUT has the greatest
        b = bench("1".repeat(15) + "0");
        due("at the last input", b.most(0, 2, 2), 4);
    }

    private void refusedMosts() {
        QuestionBench b = bench("01");
        sentence(27, "BAD: no such PLACE, what, side");
        for (int p : NO_PLACES) {
            due("most(" + p + ", 0, 0)", b.most(p, 0, 0), BAD);
        }
        for (int no : NO_WHATS) {
            due("most(0, " + no + ", 0)", b.most(0, no, 0), BAD);
            due("most(0, 0, " + no + ")", b.most(0, 0, no), BAD);
        }
        sentence(27, "NOTHING");
        due("most(7, 0, 0)", b.most(7, 0, 0), NOTHING);
        sentence(27, "OPEN");
        lay(b, 1, with(no(8), 255, 2));
        due("most(1, 0, 0)", b.most(1, 0, 0), OPEN);
        due("without any that say side", b.most(1, 0, 1), OPEN);
        due("met", b.count(4), 1);
    }

    private void dueWhere(String says, int what, int no, int yes, int all) {
        QuestionBench b = bench(says);
        due("where " + what + " of no of " + says, b.where(0, what, 0), no);
        due("where " + what + " of yes of " + says, b.where(0, what, 1), yes);
        due("where " + what + " of all of " + says, b.where(0, what, 2), all);
    }

    private void wheres() {
        sentence(28, "The least INPUT at which that is so; -1 without");
        for (int what = 0; what < 3; what++) {
            for (int bits = 1; bits <= 8; bits++) {
                int last = (1 << bits) - 1;
                dueWhere(no(bits), what, 0, -1, 0);
                dueWhere(yes(bits), what, -1, 0, 0);
                dueWhere(parity(bits), what, 0, 1, 0);
                dueWhere(and(bits), what, what == 0 ? last >> 1 : 0, last, bits == 1 ? 0 : last);
            }
            dueWhere("10", what, 1, 0, 0);
            dueWhere(with(yes(4), 15, 0), what, 15, what == 0 ? 7 : 0, 15);
        }
        dueWhere(MAJORITY, 0, 1, 3, 1);
        dueWhere(MAJORITY, 1, 1, 3, 1);
        dueWhere(MAJORITY, 2, 0, 3, 0);
        dueWhere(PAIRS, 0, 1, 3, 3);
        dueWhere(PAIRS, 1, 0, 3, 3);
    }

    private void refusedWheres() {
        sentence(28, "Findings as of most()");
        QuestionBench b = bench("01");
        for (int p : NO_PLACES) {
            due("where(" + p + ", 0, 0)", b.where(p, 0, 0), BAD);
        }
        for (int no : NO_WHATS) {
            due("where(0, " + no + ", 0)", b.where(0, no, 0), BAD);
            due("where(0, 0, " + no + ")", b.where(0, 0, no), BAD);
        }
        due("where(7, 0, 0)", b.where(7, 0, 0), NOTHING);
        lay(b, 1, "02");
        due("where(1, 0, 0)", b.where(1, 0, 0), OPEN);
        due("without any that say side", b.where(1, 0, 1), OPEN);
        due("met", b.count(4), 1);
    }

    private void polys() {
        sentence(29, "The number of a set of bits (S by bits, 0 .. 255) in THE POLY");
        QuestionBench b = bench(parity(8));
        due("the empty set", b.poly(0, 0), 0);
        due("one bit", b.poly(0, 128), 1);
        due("two bits", b.poly(0, 129), -2);
        due("seven bits", b.poly(0, 254), 64);
        due("all bits", b.poly(0, 255), -128);
        lay(b, 1, with(no(8), 0, 1));
        due("the empty set", b.poly(1, 0), 1);
        due("one bit", b.poly(1, 1), -1);
        due("seven bits", b.poly(1, 127), -1);
        due("all bits", b.poly(1, 255), 1);
        lay(b, 2, "10");
        due("of one bit", b.poly(2, 0) * 10 + b.poly(2, 1), 9);
        lay(b, 2, "11");
        due("of yes", b.poly(2, 0) * 10 + b.poly(2, 1), 10);
        lay(b, 2, "00");
        due("of no", b.poly(2, 0) * 10 + b.poly(2, 1), 0);
    }

    private void refusedPolys() {
        sentence(29, "0 if it has a bit that there is not (one outside 0 .. 255, too)");
        for (int bits = 1; bits <= 8; bits++) {
            // each set within has a number that is not 0
            QuestionBench b = bench(with(no(bits), 0, 1));
            due("all of " + bits + " bits", Math.abs(b.poly(0, (1 << bits) - 1)), 1);
            for (int bit = bits; bit < 32; bit++) {
                due("bit " + bit, b.poly(0, 1 << bit), 0);
                due("bit " + bit + " and bit 0", b.poly(0, 1 << bit | 1), 0);
            }
            for (int set : NO_SETS) {
                due("poly(0, " + set + ")", b.poly(0, set), 0);
            }
            due("poly(0, 255)", b.poly(0, 255), bits == 8 ? 1 : 0);
            due("none is counted", b.count(4), 0);
        }
        sentence(29, "and with a finding (BAD, NOTHING, OPEN)");
        QuestionBench b = bench("12");
        for (int p : NO_PLACES) {
            due("poly(" + p + ", 0)", b.poly(p, 0), 0);
        }
        due("poly(0, 0) of an open one", b.poly(0, 0), 0);
        due("BAD and OPEN are not counted", b.count(4), 0);
        due("poly(7, 0)", b.poly(7, 0), 0);
        due("NOTHING is", b.count(4), 1);
    }

    private void degrees() {
        sentence(TERMS, "DEGREE: the most bits of an S whose number is not 0 (0 without)");
        for (int bits = 1; bits <= 8; bits++) {
            due("of no", bench(no(bits)).degree(0), 0);
            due("of yes", bench(yes(bits)).degree(0), 0);
            due("of the and", bench(and(bits)).degree(0), bits);
            due("of the parity", bench(parity(bits)).degree(0), bits);
            due("of the last bit", bench(no(bits).substring(1 << bits - 1) + yes(bits).substring(1 << bits - 1)).degree(0), 1);
        }
        due("of not all alike", bench("01111110").degree(0), 2);
        sentence(30, "BAD");
        QuestionBench b = bench("02");
        for (int p : NO_PLACES) {
            due("degree(" + p + ")", b.degree(p), BAD);
        }
        sentence(30, "NOTHING");
        due("degree(7)", b.degree(7), NOTHING);
        sentence(30, "OPEN");
        due("degree(0)", b.degree(0), OPEN);
        lay(b, 0, with(yes(8), 255, 2));
        due("only the last is open", b.degree(0), OPEN);
        due("met", b.count(4), 1);
    }

    private void signs() {
        sentence(TERMS, "an even number of 1s among the bits of S that say 0, or an odd one that say 1, less how many others there are");
        for (int bits = 1; bits <= 8; bits++) {
            int inputs = 1 << bits;
            QuestionBench b = bench(no(bits));
            due("of no, the empty set", b.sign(0, 0), inputs);
            due("of no, all bits", b.sign(0, inputs - 1), 0);
            b = bench(yes(bits));
            due("of yes, the empty set", b.sign(0, 0), -inputs);
            due("of yes, one bit", b.sign(0, 1), 0);
            b = bench(parity(bits));
            due("of the parity, all bits", b.sign(0, inputs - 1), inputs);
            due("of the parity, the empty set", b.sign(0, 0), 0);
            b.made(0, 0, 0, 0);
            due("of its not, all bits", b.sign(0, inputs - 1), -inputs);
            b = bench(and(bits));
            due("of the and, the empty set", b.sign(0, 0), inputs - 2);
            due("of the and, the last bit", b.sign(0, inputs / 2), 2);
            due("of the and, all bits", b.sign(0, inputs - 1), bits % 2 == 1 ? 2 : -2);
        }
    }

    private void refusedSigns() {
        sentence(31, "THE SIGN of a set; 0 likewise");
        for (int bits = 1; bits <= 8; bits++) {
            // the sets of all bits and of bit 0 have signs that are not 0, which a set that wraps around would show
            QuestionBench b = bench(and(bits));
            due("all of " + bits + " bits", Math.abs(b.sign(0, (1 << bits) - 1)), 2);
            for (int bit = bits; bit < 32; bit++) {
                due("bit " + bit, b.sign(0, 1 << bit), 0);
                due("bit " + bit + " and bit 0", b.sign(0, 1 << bit | 1), 0);
            }
            for (int set : NO_SETS) {
                due("sign(0, " + set + ")", b.sign(0, set), 0);
            }
            due("none is counted", b.count(4), 0);
        }
        QuestionBench b = bench("02");
        for (int p : NO_PLACES) {
            due("sign(" + p + ", 0)", b.sign(p, 0), 0);
        }
        due("sign(0, 0) of an open one", b.sign(0, 0), 0);
        due("BAD and OPEN are not counted", b.count(4), 0);
        due("sign(7, 0)", b.sign(7, 0), 0);
        due("NOTHING is", b.count(4), 1);
    }

    private void energies() {
        sentence(32, "The sum of the squares of all SIGNS of sets of so many bits");
        for (int bits = 1; bits <= 8; bits++) {
            int whole = 1 << 2 * bits;
            for (int many = 0; many <= 8; many++) {
                due("of no", bench(no(bits)).energy(0, many), many == 0 ? whole : 0);
                due("of the parity", bench(parity(bits)).energy(0, many), many == bits ? whole : 0);
            }
            QuestionBench b = bench(and(bits));
            int all = 0;
            for (int many = 0; many <= 8; many++) {
                all += b.energy(0, many);
            }
            due("all of the and's", all, whole);
            due("sets of one bit", b.energy(0, 1), 4 * bits);
            due("the set of all bits", b.energy(0, bits), 4);
            for (int many = bits + 1; many <= 8; many++) {
                due("sets of more bits than there are", b.energy(0, many), 0);
            }
        }
        QuestionBench b = bench("01");
        sentence(32, "BAD: no such PLACE");
        for (int p : NO_PLACES) {
            due("energy(" + p + ", 0)", b.energy(p, 0), BAD);
        }
        sentence(32, "NOTHING");
        due("energy(7, 0)", b.energy(7, 0), NOTHING);
        sentence(32, "OPEN");
        lay(b, 1, with(no(8), 255, 2));
        due("energy(1, 0)", b.energy(1, 0), OPEN);
        sentence(32, "BAD: many is not 0 .. 8");
        for (int many : new int[] {-1, 9, LEAST, GREATEST}) {
            due("energy(0, " + many + ")", b.energy(0, many), BAD);
        }
        due("energy(0, 8)", b.energy(0, 8), 0);
        due("met", b.count(4), 1);
    }

    private void pulls() {
        sentence(TERMS, "PULL of a bit: at how many INPUTS it is SENSITIVE");
        for (int bits = 1; bits <= 8; bits++) {
            QuestionBench b = bench(parity(bits));
            due("the parity's first", b.pull(0, 0), 1 << bits);
            due("the parity's last", b.pull(0, bits - 1), 1 << bits);
            b = bench(no(bits));
            due("no's last", b.pull(0, bits - 1), 0);
            b = bench(and(bits));
            due("the and's first and last", b.pull(0, 0) * 10 + b.pull(0, bits - 1), 22);
            sentence(33, "BAD: no such bit");
            for (int bit : new int[] {-1, bits, 8, 32, LEAST, GREATEST}) {
                due("pull(0, " + bit + ") of " + bits + " bits", b.pull(0, bit), BAD);
            }
            sentence(33, "PULL of a bit");
            due("just the last bit", b.pull(0, bits - 1), 2);
        }
        QuestionBench b = bench("02");
        sentence(33, "BAD: no such PLACE");
        for (int p : NO_PLACES) {
            due("pull(" + p + ", 0)", b.pull(p, 0), BAD);
        }
        sentence(33, "NOTHING");
        due("pull(7, 0)", b.pull(7, 0), NOTHING);
        sentence(33, "OPEN");
        due("pull(0, 0)", b.pull(0, 0), OPEN);
        lay(b, 1, with(yes(8), 255, 2));
        due("only the last is open", b.pull(1, 0), OPEN);
        due("met", b.count(4), 1);
    }

    private void order() {
        sentence(TERMS, ORDER);
        QuestionBench b = bench("01");
        lay(b, 1, "02");
        due("at: no what, NOTHING", b.at(7, 3, 0), BAD);
        due("at: no what, OPEN", b.at(1, -1, 0), BAD);
        due("at: no what, PLACE", b.at(0, 3, 9), BAD);
        due("at: NOTHING, PLACE", b.at(7, 0, 9), NOTHING);
        due("at: OPEN, PLACE", b.at(1, 0, 9), OPEN);
        due("most: no what, NOTHING", b.most(7, 3, 0), BAD);
        due("most: no side, NOTHING", b.most(7, 0, 3), BAD);
        due("most: no side, OPEN", b.most(1, 0, -1), BAD);
        due("where: no what, NOTHING", b.where(7, 3, 0), BAD);
        due("where: no side, NOTHING", b.where(7, 0, 3), BAD);
        due("where: no side, OPEN", b.where(1, 0, -1), BAD);
        due("energy: no PLACE, no many", b.energy(8, 9), BAD);
        due("energy: NOTHING, no many", b.energy(7, 9), NOTHING);
        due("energy: OPEN, no many", b.energy(1, -1), OPEN);
        due("pull: NOTHING, no bit", b.pull(7, 9), NOTHING);
        due("pull: OPEN, no bit", b.pull(1, -1), OPEN);
        due("met by these", b.count(4), 3);
    }
}
