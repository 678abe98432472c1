import java.util.ArrayList;
import java.util.Arrays;
import java.util.List;

/**
 * "A call that answers one [finding] changes nothing, but where told": each refused call on a bench that has something of
 * everything, beside a bench without the call; all that can be asked must be the same of both. What is told: put(), read()
 * and check() leave no numbers that wait, and count(4) counts. Calls that only answer must change nothing at all.
 */
public final class RefusalTest extends Laying {
    private interface Call {
        int on(QuestionBench b);
    }

    private interface View {
        void of(QuestionBench b, List<Integer> answers);
    }

    /** A READ of 3 bits. */
    private static final int[] FORMULA = {2, 0, 12, 1, 11, 10};
    private static final View[] VIEWS = {
        RefusalTest::sheetsOf, RefusalTest::placesOf, RefusalTest::eightBitsOf, RefusalTest::treeAndFormOf,
        RefusalTest::gameOf, RefusalTest::keptOf
    };
    private static final Due DUE = new Due();

    public static void main(String[] args) {
        sheets();
        tasks();
        mades();
        looks();
        settlers();
        forms();
        takers();
        answerers();
        DUE.end();
    }

    private static QuestionBench full(int... waiting) {
        QuestionBench b = new QuestionBench();
        long[][] rows = {{1, 0, -1, 1}, {0, -1}, {}, {5, 0, -5}};
        for (int s = 0; s < rows.length; s++) {
            b.sheet(s, s, rows[s].length);
            for (int i = 0; i < rows[s].length; i++) {
                b.write(s, i, rows[s][i]);
            }
        }
        lay(b, 0, MAJORITY);
        b.kind(0, 2);
        lay(b, 1, "0212");
        lay(b, 2, "0001");
        b.kind(2, 1);
        tell(b, 2, 2);
        b.put(3, 2);
        tell(b, 0, 12);
        b.read(4);
        b.keep();
        b.set(1, 0, 2);
        b.task(5, 5, 5);
        b.task(6, 8, 5);
        b.set(6, 255, 1);
        b.kind(4, 1);
        b.tree(0, 1);
        b.form(0);
        b.game(0);
        b.ask(2);
        tell(b, waiting);
        return b;
    }

    private static void sheetsOf(QuestionBench b, List<Integer> answers) {
        for (int s = 0; s < 6; s++) {
            for (int sort = 0; sort < 4; sort++) {
                for (int i = 0; i < 5; i++) {
                    answers.add(b.look(s, sort, i));
                }
            }
            answers.add(b.write(s, 0, 1));
            answers.add(b.lose(s));
        }
    }

    private static void placesOf(QuestionBench b, List<Integer> answers) {
        for (int p = 0; p < 8; p++) {
            for (int what = 0; what <= 4; what++) {
                answers.add(b.of(p, what));
            }
            for (int x = 0; x < 33; x++) {
                answers.add(b.say(p, x));
            }
        }
    }

    private static void eightBitsOf(QuestionBench b, List<Integer> answers) {
        for (int x = 0; x < 256; x++) {
            answers.add(b.say(6, x));
        }
    }

    private static void treeAndFormOf(QuestionBench b, List<Integer> answers) {
        for (int what = 0; what <= 3; what++) {
            if (what != 1) answers.add(b.count(what));
            for (int k = 0; k < 12; k++) {
                answers.add(b.node(k, what));
            }
        }
        for (int x = 0; x < 8; x++) {
            answers.add(b.run(x));
            answers.add(b.cube(x));
        }
        answers.add(b.shown(0));
        answers.add(b.shown(1));
    }

    private static void gameOf(QuestionBench b, List<Integer> answers) {
        for (int bit = 3; bit >= 0; bit--) {
            answers.add(b.ask(bit));
        }
        answers.add(b.ask(0));
    }

    private static void keptOf(QuestionBench b, List<Integer> answers) {
        answers.add(b.back());
        placesOf(b, answers);
    }

    private static void waitingOf(QuestionBench b, List<Integer> answers) {
        answers.add(b.read(7));
        for (int what = 0; what <= 4; what++) {
            answers.add(b.of(7, what));
        }
        for (int x = 0; x < 256; x++) {
            answers.add(b.say(7, x));
        }
    }

    private static void dueAlike(String name, View view, Call call, int[] waiting) {
        QuestionBench with = full(waiting);
        QuestionBench without = full(waiting);
        List<Integer> got = new ArrayList<>();
        List<Integer> want = new ArrayList<>();
        call.on(with);
        view.of(with, got);
        view.of(without, want);
        DUE.due(name + " leaves " + want + ", not " + got + ": alike", got.equals(want) ? 1 : 0, 1);
    }

    private static void changesNothing(String name, Call call, boolean takes, int... waiting) {
        for (View view : VIEWS) {
            dueAlike(name, view, call, waiting);
        }
        if (!takes) {
            dueAlike(name, RefusalTest::waitingOf, call, waiting);
        }
        QuestionBench b = full(waiting);
        call.on(b);
        DUE.due(name + " leaves so many that wait", b.count(1), takes ? 0 : waiting.length);
    }

    private static void met(String name, Call call, int times, int... waiting) {
        QuestionBench b = full(waiting);
        int before = b.count(4);
        call.on(b);
        DUE.due(name + " is counted", b.count(4) - before, times);
    }

    private static int timesOf(int answer) {
        return answer == NOTHING || answer == PLACE || answer == SORT || answer == SIZE ? 1 : 0;
    }

    private static void refused(String name, int answer, Call call) {
        DUE.due(name, call.on(full(FORMULA)), answer);
        changesNothing(name, call, false, FORMULA);
        met(name, call, timesOf(answer), FORMULA);
    }

    private static void sheets() {
        refused("sheet(6, 0, 1)", BAD, b -> b.sheet(6, 0, 1));
        refused("sheet(0, 4, 1)", BAD, b -> b.sheet(0, 4, 1));
        refused("sheet(0, 0, 257)", BAD, b -> b.sheet(0, 0, 257));
        refused("sheet(0, 0, -1)", SIZE, b -> b.sheet(0, 0, -1));
        refused("sheet(5, 0, -1)", SIZE, b -> b.sheet(5, 0, -1));
        refused("lose(6)", BAD, b -> b.lose(6));
        refused("lose(-1)", BAD, b -> b.lose(-1));
        refused("write(6, 0, 1)", BAD, b -> b.write(6, 0, 1));
        refused("write(5, 0, 1)", NOTHING, b -> b.write(5, 0, 1));
        refused("write(0, 4, 1)", PLACE, b -> b.write(0, 4, 1));
        refused("write(2, 0, 1)", PLACE, b -> b.write(2, 0, 1));
        refused("look(6, 0, 0)", BAD, b -> b.look(6, 0, 0));
        refused("look(0, 4, 0)", BAD, b -> b.look(0, 4, 0));
        refused("look(5, 0, 0)", NOTHING, b -> b.look(5, 0, 0));
        refused("look(0, 1, 0)", SORT, b -> b.look(0, 1, 0));
        refused("look(0, 0, 4)", PLACE, b -> b.look(0, 0, 4));
        refused("copy(6, 0, 0, 0, 1)", BAD, b -> b.copy(6, 0, 0, 0, 1));
        refused("copy(0, 0, -1, 0, 1)", BAD, b -> b.copy(0, 0, -1, 0, 1));
        refused("copy(5, 0, 0, 0, 1)", NOTHING, b -> b.copy(5, 0, 0, 0, 1));
        refused("copy(0, 0, 5, 0, 1)", NOTHING, b -> b.copy(0, 0, 5, 0, 1));
        refused("copy(0, 0, 1, 0, 1)", SORT, b -> b.copy(0, 0, 1, 0, 1));
        refused("copy(0, 0, 0, 1, 4)", PLACE, b -> b.copy(0, 0, 0, 1, 4));
        refused("copy(0, 1, 0, 0, 4)", PLACE, b -> b.copy(0, 1, 0, 0, 4));
        refused("copy(0, -1, 0, 0, 1)", PLACE, b -> b.copy(0, -1, 0, 0, 1));
        refused("copy(0, 0, 0, 1, -1)", PLACE, b -> b.copy(0, 0, 0, 1, -1));
    }

    private static void tasks() {
        refused("task(8, 1, 0)", BAD, b -> b.task(8, 1, 0));
        refused("task(0, 1, 6)", BAD, b -> b.task(0, 1, 6));
        refused("task(0, 0, 0)", BAD, b -> b.task(0, 0, 0));
        refused("task(0, 9, 0)", BAD, b -> b.task(0, 9, 0));
        refused("kind(8, 0)", BAD, b -> b.kind(8, 0));
        refused("kind(0, 3)", BAD, b -> b.kind(0, 3));
        refused("kind(7, 0)", NOTHING, b -> b.kind(7, 0));
        refused("shown(2)", BAD, b -> b.shown(2));
        refused("say(8, 0)", BAD, b -> b.say(8, 0));
        refused("say(7, 0)", NOTHING, b -> b.say(7, 0));
        refused("say(0, 8)", PLACE, b -> b.say(0, 8));
        refused("set(8, 0, 1)", BAD, b -> b.set(8, 0, 1));
        refused("set(0, 0, 3)", BAD, b -> b.set(0, 0, 3));
        refused("set(7, 0, 1)", NOTHING, b -> b.set(7, 0, 1));
        refused("set(0, 8, 1)", PLACE, b -> b.set(0, 8, 1));
        refused("set(3, 16, 1)", PLACE, b -> b.set(3, 16, 1));
        refused("set(4, -1, 1)", PLACE, b -> b.set(4, -1, 1));
        refused("of(8, 0)", BAD, b -> b.of(8, 0));
        refused("of(0, 5)", BAD, b -> b.of(0, 5));
        refused("of(7, 0)", NOTHING, b -> b.of(7, 0));
        refused("clear(8)", BAD, b -> b.clear(8));
        refused("clear(-1)", BAD, b -> b.clear(-1));
        refused("move(8, 0)", BAD, b -> b.move(8, 0));
        refused("move(0, 8)", BAD, b -> b.move(0, 8));
        refused("move(7, 0)", NOTHING, b -> b.move(7, 0));
        // just the pair that is shown changes: it is the same here
        refused("kind(4, 1)", NOT_SO, b -> b.kind(4, 1));
        int[] hundred = Arrays.copyOf(FORMULA, 100);
        Arrays.fill(hundred, FORMULA.length, 100, 12);
        DUE.due("tell(12) when 100 wait", full(hundred).tell(12), BAD);
        changesNothing("tell(12) when 100 wait", b -> b.tell(12), false, hundred);
        met("tell(12) when 100 wait", b -> b.tell(12), 0, hundred);
    }

    private static void mades() {
        refused("made(8, 0, 0, 0)", BAD, b -> b.made(8, 0, 0, 0));
        refused("made(0, 8, 0, 0)", BAD, b -> b.made(0, 8, 0, 0));
        refused("made(0, 1, 5, 0)", BAD, b -> b.made(0, 1, 5, 0));
        refused("made(7, 0, 0, 0)", NOTHING, b -> b.made(7, 0, 0, 0));
        refused("made(0, 1, 2, 3)", BAD, b -> b.made(0, 1, 2, 3));
        refused("made(0, 1, 3, -1)", BAD, b -> b.made(0, 1, 3, -1));
        refused("made(0, 1, 4, 3)", BAD, b -> b.made(0, 1, 4, 3));
        refused("made(4, 1, 2, 0)", BIG, b -> b.made(4, 1, 2, 0));
        refused("made(4, 4, 3, 0)", BIG, b -> b.made(4, 4, 3, 0));
        refused("same(8, 0)", BAD, b -> b.same(8, 0));
        refused("same(0, 8)", BAD, b -> b.same(0, 8));
        refused("same(0, 7)", NOTHING, b -> b.same(0, 7));
        refused("same(7, 7)", NOTHING, b -> b.same(7, 7));
    }

    private static void looks() {
        refused("depth(8)", BAD, b -> b.depth(8));
        refused("depth(7)", NOTHING, b -> b.depth(7));
        refused("sum(8)", BAD, b -> b.sum(8));
        refused("sum(7)", NOTHING, b -> b.sum(7));
        refused("tree(8, 0)", BAD, b -> b.tree(8, 0));
        refused("tree(2, 2)", BAD, b -> b.tree(2, 2));
        refused("tree(7, 0)", NOTHING, b -> b.tree(7, 0));
        refused("node(11, 0)", BAD, b -> b.node(11, 0));
        refused("node(0, 4)", BAD, b -> b.node(0, 4));
        refused("run(256)", BAD, b -> b.run(256));
        refused("run(-1)", BAD, b -> b.run(-1));
    }

    private static void settlers() {
        refused("at(8, 0, 0)", BAD, b -> b.at(8, 0, 0));
        refused("at(0, 3, 0)", BAD, b -> b.at(0, 3, 0));
        refused("at(7, 0, 0)", NOTHING, b -> b.at(7, 0, 0));
        refused("at(1, 0, 0)", OPEN, b -> b.at(1, 0, 0));
        refused("at(0, 0, 8)", PLACE, b -> b.at(0, 0, 8));
        refused("most(8, 0, 0)", BAD, b -> b.most(8, 0, 0));
        refused("most(0, 3, 0)", BAD, b -> b.most(0, 3, 0));
        refused("most(0, 0, 3)", BAD, b -> b.most(0, 0, 3));
        refused("most(7, 0, 0)", NOTHING, b -> b.most(7, 0, 0));
        refused("most(1, 0, 0)", OPEN, b -> b.most(1, 0, 0));
        refused("where(8, 0, 0)", BAD, b -> b.where(8, 0, 0));
        refused("where(0, 0, 3)", BAD, b -> b.where(0, 0, 3));
        refused("where(7, 0, 0)", NOTHING, b -> b.where(7, 0, 0));
        refused("where(1, 0, 0)", OPEN, b -> b.where(1, 0, 0));
        refused("degree(8)", BAD, b -> b.degree(8));
        refused("degree(7)", NOTHING, b -> b.degree(7));
        refused("degree(1)", OPEN, b -> b.degree(1));
        refused("energy(8, 0)", BAD, b -> b.energy(8, 0));
        refused("energy(7, 0)", NOTHING, b -> b.energy(7, 0));
        refused("energy(1, 0)", OPEN, b -> b.energy(1, 0));
        refused("energy(0, 9)", BAD, b -> b.energy(0, 9));
        refused("pull(8, 0)", BAD, b -> b.pull(8, 0));
        refused("pull(7, 0)", NOTHING, b -> b.pull(7, 0));
        refused("pull(1, 0)", OPEN, b -> b.pull(1, 0));
        refused("pull(0, 3)", BAD, b -> b.pull(0, 3));
        hidden("poly(8, 0)", 0, b -> b.poly(8, 0));
        hidden("poly(7, 0)", 1, b -> b.poly(7, 0));
        hidden("poly(1, 0)", 0, b -> b.poly(1, 0));
        hidden("poly(0, 8)", 0, b -> b.poly(0, 8));
        hidden("poly(0, 256)", 0, b -> b.poly(0, 256));
        hidden("sign(8, 0)", 0, b -> b.sign(8, 0));
        hidden("sign(7, 0)", 1, b -> b.sign(7, 0));
        hidden("sign(1, 0)", 0, b -> b.sign(1, 0));
        hidden("sign(0, 8)", 0, b -> b.sign(0, 8));
        hidden("sign(0, 256)", 0, b -> b.sign(0, 256));
    }

    /** poly() and sign() answer 0 where other calls answer a finding. */
    private static void hidden(String name, int times, Call call) {
        DUE.due(name, call.on(full(FORMULA)), 0);
        changesNothing(name, call, false, FORMULA);
        met(name, call, times, FORMULA);
    }

    private static void forms() {
        refused("form(8)", BAD, b -> b.form(8));
        refused("form(7)", NOTHING, b -> b.form(7));
        refused("form(5)", BIG, b -> b.form(5));
        refused("cube(3)", BAD, b -> b.cube(3));
        refused("cube(-1)", BAD, b -> b.cube(-1));
        refused("letters(8)", BAD, b -> b.letters(8));
        refused("letters(7)", NOTHING, b -> b.letters(7));
        refused("letters(1)", OPEN, b -> b.letters(1));
        refused("letters(3)", BIG, b -> b.letters(3));
        refused("game(8)", BAD, b -> b.game(8));
        refused("game(7)", NOTHING, b -> b.game(7));
        refused("ask(3)", BAD, b -> b.ask(3));
        refused("ask(-1)", BAD, b -> b.ask(-1));
        refused("ask(2)", BAD, b -> b.ask(2));
        refused("count(5)", BAD, b -> b.count(5));
        refused("count(-1)", BAD, b -> b.count(-1));
        // nothing is kept of a new object, and what is there stays
        QuestionBench b = bench("01");
        DUE.due("back()", b.back(), NOTHING);
        DUE.due("back() leaves the task", b.say(0, 1) * 10 + b.count(0), 11);
        DUE.due("back() is counted", b.count(4), 1);
        // a GAME that is settled stays as it is, asked or not
        b = bench("0011");
        b.game(0);
        b.ask(1);
        DUE.due("ask(0)", b.ask(0), NOT_SO);
        DUE.due("ask(0) again", b.ask(0), NOT_SO);
        DUE.due("ask() is not counted", b.count(4), 0);
    }

    private static void taken(String name, int answer, Call call, int... waiting) {
        String told = name + " of " + Arrays.toString(waiting);
        DUE.due(told, call.on(full(waiting)), answer);
        changesNothing(told, call, true, waiting);
        met(told, call, timesOf(answer), waiting);
    }

    private static void takers() {
        taken("put(8, 2)", BAD, b -> b.put(8, 2), 2, 2);
        taken("put(0, -1)", BAD, b -> b.put(0, -1), 2, 2);
        taken("put(0, 7)", NOTHING, b -> b.put(0, 7), 2, 2);
        taken("put(0, 2)", BAD, b -> b.put(0, 2));
        taken("put(0, 2)", BAD, b -> b.put(0, 2), 2);
        taken("put(0, 2)", BAD, b -> b.put(0, 2), 2, 2, 2);
        taken("put(0, 2)", BAD, b -> b.put(0, 2), 2, 8);
        taken("put(0, 2)", NOTHING, b -> b.put(0, 2), 2, 7);
        taken("put(0, 2)", OPEN, b -> b.put(0, 2), 2, 1);
        taken("put(0, 1)", OPEN, b -> b.put(0, 1), 2, 2);
        taken("put(0, 2)", BIG, b -> b.put(0, 2), 4, 6);
        taken("read(8)", BAD, b -> b.read(8), FORMULA);
        taken("read(0)", BAD, b -> b.read(0));
        taken("read(0)", BAD, b -> b.read(0), 0, 1);
        taken("read(0)", BAD, b -> b.read(0), 0, 0, 10);
        taken("read(0)", BAD, b -> b.read(0), 1);
        taken("read(0)", BAD, b -> b.read(0), 0, 10);
        taken("check(8)", BAD, b -> b.check(8), 20);
        taken("check(7)", NOTHING, b -> b.check(7), 20);
        taken("check(0)", NOT_SO, b -> b.check(0));
        taken("check(0)", NOT_SO, b -> b.check(0), 0, 20);
        taken("check(0)", NOT_SO, b -> b.check(0), 20, 20);
        taken("check(0)", NOT_SO, b -> b.check(0), 3, 20, 21);
        // no findings, but check() changes nothing else either
        taken("check(0)", 4, b -> b.check(0), 20);
        taken("check(5)", 0, b -> b.check(5), 0, 1, 20, 20, 20);
    }

    private static void answerer(String name, Call call) {
        DUE.due(name + " is no finding", call.on(full(FORMULA)) >= 0 ? 1 : 0, 1);
        changesNothing(name, call, false, FORMULA);
        met(name, call, 0, FORMULA);
    }

    private static void answerers() {
        answerer("look(0, 0, 0)", b -> b.look(0, 0, 0));
        answerer("lose(5)", b -> b.lose(5));
        answerer("copy(0, 4, 0, 0, 0)", b -> b.copy(0, 4, 0, 0, 0));
        answerer("copy(0, 1, 0, 1, 3)", b -> b.copy(0, 1, 0, 1, 3));
        answerer("kind(0, 2)", b -> b.kind(0, 2));
        answerer("shown(0)", b -> b.shown(0));
        answerer("say(0, 0)", b -> b.say(0, 0));
        answerer("set(1, 2, 1)", b -> b.set(1, 2, 1));
        answerer("of(3, 4)", b -> b.of(3, 4));
        answerer("clear(7)", b -> b.clear(7));
        answerer("move(3, 3)", b -> b.move(3, 3));
        answerer("same(0, 1)", b -> b.same(0, 1));
        for (int p = 0; p < 7; p++) {
            int place = p;
            answerer("depth(" + p + ")", b -> b.depth(place));
            answerer("sum(" + p + ")", b -> b.sum(place));
        }
        answerer("node(0, 0)", b -> b.node(0, 0));
        answerer("run(255)", b -> b.run(255));
        for (int w = 0; w < 3; w++) {
            int what = w;
            answerer("at(3, " + w + ", 15)", b -> b.at(3, what, 15));
            answerer("most(3, " + w + ", 2)", b -> b.most(3, what, 2));
            answerer("where(6, " + w + ", 2)", b -> b.where(6, what, 2));
        }
        answerer("poly(0, 3)", b -> b.poly(0, 3));
        answerer("degree(6)", b -> b.degree(6));
        answerer("sign(0, 0)", b -> b.sign(0, 0));
        answerer("energy(6, 4)", b -> b.energy(6, 4));
        answerer("pull(6, 7)", b -> b.pull(6, 7));
        answerer("cube(0)", b -> b.cube(0));
        answerer("letters(0)", b -> b.letters(0));
        answerer("count(4)", b -> b.count(4));
        // what is made again is the same
        answerer("tree(0, 1)", b -> b.tree(0, 1));
        answerer("form(0)", b -> b.form(0));
    }
}
