/** The terms, and promise 1, at their edges: every call by every PLACE and SHEET that there is, and by those that there are not. */
public final class TermsEdgesTest extends Edges {
    private interface Call {
        int on(QuestionBench b, int p);
    }

    private record Named(String name, int refused, Call call) {
    }

    /** Each PLACE of each call that has one; poly() and sign() answer 0 for a finding. */
    private static final Named[] BY_PLACE = {
        new Named("task(p, ..)", BAD, (b, p) -> b.task(p, 1, 0)),
        new Named("kind", BAD, (b, p) -> b.kind(p, 0)),
        new Named("say", BAD, (b, p) -> b.say(p, 0)),
        new Named("set", BAD, (b, p) -> b.set(p, 0, 0)),
        new Named("of", BAD, (b, p) -> b.of(p, 0)),
        new Named("clear", BAD, (b, p) -> b.clear(p)),
        new Named("move(p, ..)", BAD, (b, p) -> b.move(p, 0)),
        new Named("move(.., q)", BAD, (b, p) -> b.move(0, p)),
        new Named("put(p, ..)", BAD, (b, p) -> b.tell(0) + b.put(p, 0) - 1),
        new Named("put(.., q)", BAD, (b, p) -> b.tell(0) + b.put(0, p) - 1),
        new Named("put of p", BAD, (b, p) -> b.tell(p) + b.put(0, 0) - 1),
        new Named("read", BAD, (b, p) -> b.tell(0) + b.read(p) - 1),
        new Named("made(p, ..)", BAD, (b, p) -> b.made(p, 0, 0, 0)),
        new Named("made(.., q, ..)", BAD, (b, p) -> b.made(0, p, 0, 0)),
        new Named("same(p, ..)", BAD, (b, p) -> b.same(p, 0)),
        new Named("same(.., q)", BAD, (b, p) -> b.same(0, p)),
        new Named("depth", BAD, (b, p) -> b.depth(p)),
        new Named("sum", BAD, (b, p) -> b.sum(p)),
        new Named("tree", BAD, (b, p) -> b.tree(p, 0)),
        new Named("check", BAD, (b, p) -> b.tell(20) + b.check(p) - 1),
        new Named("at", BAD, (b, p) -> b.at(p, 0, 0)),
        new Named("most", BAD, (b, p) -> b.most(p, 0, 2)),
        new Named("where", BAD, (b, p) -> b.where(p, 0, 2)),
        new Named("poly", 0, (b, p) -> b.poly(p, 0)),
        new Named("degree", BAD, (b, p) -> b.degree(p)),
        new Named("sign", 0, (b, p) -> b.sign(p, 0)),
        new Named("energy", BAD, (b, p) -> b.energy(p, 0)),
        new Named("pull", BAD, (b, p) -> b.pull(p, 0)),
        new Named("form", BAD, (b, p) -> b.form(p)),
        new Named("letters", BAD, (b, p) -> b.letters(p)),
        new Named("game", BAD, (b, p) -> b.game(p)),
    };

    /** Those of them that fill a PLACE or empty it, so that nothing is wrong with an empty one. */
    private static final String FILLS = "task(p, ..) clear move(.., q) put(p, ..) read made(.., q, ..)";

    private static final Named[] BY_SHEET = {
        new Named("sheet", BAD, (b, s) -> b.sheet(s, 0, 1)),
        new Named("lose", BAD, (b, s) -> b.lose(s)),
        new Named("write", BAD, (b, s) -> b.write(s, 0, 1)),
        new Named("look", BAD, (b, s) -> b.look(s, 0, 0)),
        new Named("copy(s, ..)", BAD, (b, s) -> b.copy(s, 0, 0, 0, 1)),
        new Named("copy(.., t, ..)", BAD, (b, s) -> b.copy(0, 0, s, 0, 1)),
        new Named("task(.., s)", BAD, (b, s) -> b.task(0, 1, s)),
    };

    public static void main(String[] args) {
        TermsEdgesTest test = new TermsEdgesTest();
        test.newObject();
        test.findings();
        test.bits();
        test.places();
        test.sheets();
        test.apart();
        test.end(1, 1);
    }

    private void newObject() {
        sentence(1, "No tasks; all SHEETS MISSING; no TREE, FORM, GAME; nothing waits, nothing is kept");
        QuestionBench b = new QuestionBench();
        due("tasks", b.count(0), 0);
        for (int s = 0; s < 6; s++) {
            due("sheet " + s, b.lose(s), 0);
        }
        due("nodes", b.count(2), 0);
        due("node(0, 0)", b.node(0, 0), BAD);
        due("run(0)", b.run(0), BAD);
        due("cubes", b.count(3), 0);
        due("cube(0)", b.cube(0), BAD);
        due("ask(0)", b.ask(0), BAD);
        due("numbers that wait", b.count(1), 0);
        due("read of what waits", b.read(0), BAD);
        due("shown", b.shown(0) + b.shown(1), -2);
        due("met", b.count(4), 0);
        due("back", b.back(), NOTHING);
        due("met", b.count(4), 1);
        sentence(TERMS, "PLACES 0 to 7 hold TASKS, or nothing (at first)");
        for (Named each : BY_PLACE) {
            for (int p = 1; p < 8; p++) {
                if (!FILLS.contains(each.name)) {
                    b = bench("01");
                    due(each.name + " of place " + p, each.call.on(b, p), each.refused == 0 ? 0 : NOTHING);
                    due("it is counted", b.count(4), 1);
                    due("nothing is there still", b.count(0), 1);
                }
            }
        }
    }

    private void findings() {
        sentence(TERMS, "-2 BAD, -3 NOT SO, -4 OPEN, -5 BIG, -10 NOTHING, -11 PLACE, -12 SORT, -13 SIZE");
        QuestionBench b = bench("12");
        b.task(1, 5, 0);
        b.sheet(0, 0, 1);
        due("BAD", b.depth(8), -2);
        due("NOT SO", b.kind(0, 1), -3);
        due("OPEN", b.degree(0), -4);
        due("BIG", b.form(1), -5);
        due("NOTHING", b.depth(7), -10);
        due("PLACE", b.look(0, 0, 1), -11);
        due("SORT", b.look(0, 1, 0), -12);
        due("SIZE", b.sheet(0, 0, -1), -13);
    }

    private void bits() {
        sentence(TERMS, "A TASK of n BITS (1 to 8) says for each INPUT x, 0 to 2^n - 1 (bit i of x being BIT i)");
        for (int bits = 1; bits <= 8; bits++) {
            int inputs = 1 << bits;
            QuestionBench b = new QuestionBench();
            due("task of " + bits + " bits", b.task(0, bits, 0), 0);
            due("its first", b.say(0, 0), 0);
            due("its last", b.say(0, inputs - 1), 0);
            due("behind its last", b.say(0, inputs), PLACE);
            due("ahead of its first", b.say(0, -1), PLACE);
            for (int i = 0; i < bits; i++) {
                dueBit(bits, i);
            }
        }
        QuestionBench b = new QuestionBench();
        due("0 bits", b.task(0, 0, 0), BAD);
        due("9 bits", b.task(0, 9, 0), BAD);
    }

    /** The task that says what one of its bits is. */
    private void dueBit(int bits, int bit) {
        StringBuilder says = new StringBuilder();
        for (int x = 0; x < 1 << bits; x++) {
            says.append(x >> bit & 1);
        }
        QuestionBench b = bench(says.toString());
        for (int i = 0; i < bits; i++) {
            due("pull of bit " + i + " of " + bits + " where bit " + bit + " is said", b.pull(0, i), i == bit ? 1 << bits : 0);
        }
        due("it alone is looked at", b.tree(0, 0) * 10 + b.node(0, 0), 30 + bit);
    }

    private void places() {
        sentence(TERMS, "PLACES 0 to 7 hold TASKS");
        for (Named each : BY_PLACE) {
            for (int p = 0; p < 8; p++) {
                QuestionBench b = bench("01");
                for (int q = 1; q < 8; q++) {
                    b.move(0, q);
                }
                due(each.name + " of place " + p + " is no finding", each.call.on(b, p) >= 0 ? 1 : 0, 1);
                due("none is met", b.count(4), 0);
            }
            for (int p : new int[] {-1, 8, -8, 16, 256, LEAST, GREATEST}) {
                QuestionBench b = bench("01");
                due(each.name + " of place " + p, each.call.on(b, p), each.refused);
                due("none is met", b.count(4), 0);
                due("none wait", b.count(1), 0);
                dueSays(each.name + " of place " + p, b, 0, "01");
                due("tasks", b.count(0), 1);
            }
        }
    }

    private void sheets() {
        sentence(TERMS, "SHEETS 0 to 5 are rows of bytes (SORT 0), shorts (1), ints (2) or longs (3), or MISSING (at first)");
        for (Named each : BY_SHEET) {
            for (int s = 0; s < 6; s++) {
                QuestionBench b = new QuestionBench();
                for (int t = 0; t < 6; t++) {
                    b.sheet(t, 0, 1);
                }
                due(each.name + " of sheet " + s + " is no finding", each.call.on(b, s) >= 0 ? 1 : 0, 1);
                due("none is met", b.count(4), 0);
            }
            for (int s : new int[] {-1, 6, 7, -6, 12, 256, LEAST, GREATEST}) {
                QuestionBench b = new QuestionBench();
                b.sheet(0, 0, 1);
                due(each.name + " of sheet " + s, each.call.on(b, s), BAD);
                due("none is met", b.count(4), 0);
                due("sheet 0", b.look(0, 0, 0), 2);
            }
        }
        for (int sort = 0; sort < 4; sort++) {
            QuestionBench b = new QuestionBench();
            b.sheet(5, sort, 1);
            // the greatest of this SORT is the first that all smaller ones narrow to -1
            b.write(5, 0, (1L << (8 << sort) - 1) - 1);
            due("the greatest of sort " + sort, b.look(5, sort, 0), 1);
            b.write(5, 0, 1L << (8 << sort) - 1);
            due("one more", b.look(5, sort, 0), 3);
        }
    }

    private void apart() {
        sentence(1, "No tasks; all SHEETS MISSING");
        QuestionBench one = bench("01");
        QuestionBench other = new QuestionBench();
        one.sheet(0, 0, 1);
        one.keep();
        one.tell(1);
        one.tree(0, 0);
        one.form(0);
        one.game(0);
        one.depth(7);
        due("tasks of another object", other.count(0), 0);
        due("its sheets", other.lose(0), 0);
        due("what is kept", other.back(), NOTHING);
        due("its numbers, nodes and cubes", other.count(1) + other.count(2) + other.count(3), 0);
        due("its game", other.ask(0), BAD);
        due("met", other.count(4), 1);
        due("met by the first", one.count(4), 1);
    }
}
