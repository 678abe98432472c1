/** Promises 34 to 41 at their edges. */
public final class FormEdgesTest extends Edges {
    private static final int[] NO_PLACES = {-1, 8, 9, LEAST, GREATEST};

    public static void main(String[] args) {
        FormEdgesTest test = new FormEdgesTest();
        test.emptyAndFull();
        test.leastForms();
        test.refusedForms();
        test.cubes();
        test.letterCounts();
        test.refusedLetters();
        test.games();
        test.gameStays();
        test.refusedGames();
        test.refusedAsks();
        test.keeps();
        test.backs();
        test.counts();
        test.metEver();
        test.order();
        test.end(34, 41);
    }

    private void dueForm(String says, int... numbers) {
        QuestionBench b = bench(says);
        due("form of " + says, b.form(0), numbers.length);
        due("count(3)", b.count(3), numbers.length);
        for (int k = 0; k < numbers.length; k++) {
            due("cube(" + k + ") of " + says, b.cube(k), numbers[k]);
        }
        due("cube(" + numbers.length + ") of " + says, b.cube(numbers.length), BAD);
    }

    /** The NUMBER of the CUBE that has but one INPUT. */
    private static int point(int bits, int x) {
        int number = 0;
        for (int i = bits - 1; i >= 0; i--) {
            number = number * 3 + (x >> i & 1);
        }
        return number;
    }

    private void emptyAndFull() {
        sentence(TERMS, "each having the least INPUT that says 1 and that none ahead of it has, till there is none such");
        int[] wholes = {2, 8, 26, 80};
        for (int bits = 1; bits <= 4; bits++) {
            int last = (1 << bits) - 1;
            dueForm(no(bits));
            dueForm(open(bits));
            dueForm(with(open(bits), 0, 0));
            dueForm(with(no(bits), last, 2));
            dueForm(yes(bits), wholes[bits - 1]);
        }
        dueForm("0110", 1, 3);
        dueForm(parity(4), point(4, 1), point(4, 2), point(4, 4), point(4, 7), point(4, 8), point(4, 11), point(4, 13), point(4, 14));
        QuestionBench b = bench(parity(4));
        due("the longest form", b.form(0), 8);
        b.made(0, 0, 0, 0);
        due("its not", b.form(0), 8);
        sentence(TERMS, "digits by 3, that of bit 0 counting least: its bit's value, or 2 without");
        for (int bits = 1; bits <= 4; bits++) {
            for (int x = 0; x < 1 << bits; x++) {
                dueForm(with(no(bits), x, 1), point(bits, x));
            }
        }
        dueForm("0000000011111111", 26 + 27);
        dueForm("0101010101010101", 1 + 78);
        dueForm("0011001100110011", 2 + 3 + 72);
    }

    private void leastForms() {
        sentence(TERMS, "A FORM for a task of at most 4 bits is a row of CUBES that have no INPUT that says 0");
        // an OPEN one may be had, and need not be
        dueForm("1222", 0);
        dueForm("1202", 0);
        dueForm("2111", 8);
        dueForm("1112", 8);
        dueForm("1221", 8);
        dueForm("0120", 1);
        dueForm("1200", 0);
        sentence(TERMS, "THE FORM has the fewest CUBES; of such rows the one with the lesser NUMBER at the first that differs");
        // a narrow CUBE is taken ahead of a wide one where no more come of it
        dueForm("0111", 1, 5);
        dueForm("1110", 2, 3);
        dueForm("1101", 0, 7);
        dueForm("01111110", 7, 21, 11);
        dueForm(MAJORITY, 4, 10, 14);
    }

    private void refusedForms() {
        QuestionBench b = bench("0111");
        sentence(34, "BAD");
        for (int p : NO_PLACES) {
            due("form(" + p + ")", b.form(p), BAD);
        }
        sentence(34, "NOTHING");
        due("form(7)", b.form(7), NOTHING);
        due("there is none yet", b.cube(0), BAD);
        sentence(34, "BIG: more than 4 bits");
        for (int bits = 1; bits <= 8; bits++) {
            b.task(1, bits, 0);
            due("form of no of " + bits + " bits", b.form(1), bits <= 4 ? 0 : BIG);
        }
        sentence(34, "THE FORM of a task is found: how many CUBES");
        b.form(0);
        b.form(7);
        b.form(8);
        b.form(1);
        due("findings leave it", b.count(3) * 100 + b.cube(0) * 10 + b.cube(1), 215);
        b.set(0, 3, 0);
        b.clear(0);
        due("what becomes of the task does not matter", b.count(3) * 100 + b.cube(0) * 10 + b.cube(1), 215);
        b.task(1, 4, 0);
        due("the next one is empty", b.form(1), 0);
        due("and takes its place", b.cube(0), BAD);
        due("count(3)", b.count(3), 0);
    }

    private void cubes() {
        sentence(35, "The NUMBER of CUBE k of the latest FORM");
        QuestionBench b = bench(parity(4));
        b.form(0);
        due("the first", b.cube(0), point(4, 1));
        due("the last", b.cube(7), point(4, 14));
        sentence(35, "BAD: there is none such");
        for (int k : new int[] {-1, 8, 9, 16, LEAST, GREATEST}) {
            due("cube(" + k + ")", b.cube(k), BAD);
        }
        lay(b, 1, "11");
        b.form(1);
        due("a shorter form", b.cube(0), 2);
        due("the longer one's second is gone", b.cube(1), BAD);
        due("of a new object", new QuestionBench().cube(0), BAD);
        due("none is counted", b.count(4), 0);
    }

    private void letterCounts() {
        sentence(36, "LETTERS");
        String[] says = {"01", "10", "0001", "0110", "1001", "0011", PARITY, MAJORITY, CHOICE, and(3), "01111110", "10000001"};
        int[] letters = {1, 1, 2, 4, 4, 1, 10, 5, 4, 3, 6, 6};
        for (int k = 0; k < says.length; k++) {
            QuestionBench b = bench(says[k]);
            due("letters of " + says[k], b.letters(0), letters[k]);
            b.made(0, 0, 0, 0);
            due("letters of its not", b.letters(0), letters[k]);
        }
        sentence(TERMS, "(0, if it says the same of all INPUTS)");
        for (int bits = 1; bits <= 3; bits++) {
            due("of no", bench(no(bits)).letters(0), 0);
            due("of yes", bench(yes(bits)).letters(0), 0);
            due("of all but the last", bench(with(yes(bits), (1 << bits) - 1, 0)).letters(0), bits);
            due("of the first alone", bench(with(no(bits), 0, 1)).letters(0), bits);
        }
    }

    private void refusedLetters() {
        QuestionBench b = bench("01");
        sentence(36, "BAD");
        for (int p : NO_PLACES) {
            due("letters(" + p + ")", b.letters(p), BAD);
        }
        sentence(36, "NOTHING");
        due("letters(7)", b.letters(7), NOTHING);
        sentence(36, "OPEN");
        for (int bits = 1; bits <= 8; bits++) {
            lay(b, 1, with(no(bits), (1 << bits) - 1, 2));
            due("the last of " + bits + " bits", b.letters(1), OPEN);
        }
        lay(b, 1, "20");
        due("the first", b.letters(1), OPEN);
        sentence(36, "BIG: more than 3 bits");
        for (int bits = 1; bits <= 8; bits++) {
            b.task(1, bits, 0);
            due("letters of no of " + bits + " bits", b.letters(1), bits <= 3 ? 0 : BIG);
        }
        due("met", b.count(4), 1);
    }

    private void games() {
        sentence(37, "begins: its DEPTH");
        for (int bits = 1; bits <= 8; bits++) {
            QuestionBench b = bench(parity(bits));
            due("of the parity of " + bits, b.game(0), bits);
            sentence(38, "10 times the DEPTH that is left then, and its value");
            for (int i = bits - 1; i > 0; i--) {
                due("ask(" + i + ")", b.ask(i), 10 * i);
            }
            due("the last", b.ask(0), 0);
            due("again", b.ask(0), BAD);
            sentence(37, "THE GAME about the task at a PLACE (as it is now) begins: its DEPTH");
            due("of no", bench(no(bits)).game(0), 0);
            due("of all open", bench(open(bits)).game(0), 0);
        }
        sentence(TERMS, "the answer is the value for which the CUBE that is left is deeper (of like DEPTHS 0)");
        QuestionBench b = bench(and(8));
        b.game(0);
        for (int i = 0; i < 7; i++) {
            due("ask(" + i + ") of the and", b.ask(i), 10 * (7 - i) + 1);
        }
        due("of like depths 0", b.ask(7), 0);
        lay(b, 1, "0111");
        b.game(1);
        due("deeper at 0", b.ask(1), 10);
        due("of like depths 0", b.ask(0), 0);
        lay(b, 2, "1101");
        b.game(2);
        due("deeper at 1", b.ask(1), 11);
        due("of like depths 0", b.ask(0), 0);
    }

    private void gameStays() {
        sentence(37, "(as it is now)");
        QuestionBench b = bench(and(3));
        lay(b, 1, "01");
        b.keep();
        b.game(0);
        due("ask(2)", b.ask(2), 21);
        b.set(0, 7, 0);
        b.depth(0);
        b.sum(1);
        b.tree(1, 1);
        due("the task was set", b.ask(1), 11);
        b.move(1, 0);
        b.clear(0);
        b.back();
        due("the task was cleared, and brought back", b.ask(0), 0);
        due("game(1)", b.game(1), 1);
        due("another game takes its place", b.ask(2), BAD);
        due("its bit", b.ask(0), 0);
        due("game(1) again", b.game(1), 1);
        due("its bit can be asked for again", b.ask(0), 0);
    }

    private void refusedGames() {
        QuestionBench b = bench("0110");
        sentence(37, "BAD");
        for (int p : NO_PLACES) {
            due("game(" + p + ")", b.game(p), BAD);
        }
        due("there is none yet", b.ask(0), BAD);
        sentence(37, "NOTHING");
        due("game(7)", b.game(7), NOTHING);
        due("there is none yet", b.ask(0), BAD);
        b.game(0);
        b.ask(1);
        due("game(7)", b.game(7), NOTHING);
        due("game(8)", b.game(8), BAD);
        due("THE GAME goes on: what was asked for", b.ask(1), BAD);
        due("THE GAME goes on", b.ask(0), 0);
        due("met", b.count(4), 2);
    }

    private void refusedAsks() {
        sentence(38, "BAD: no GAME, no such bit, it was asked for");
        for (int bit = -1; bit <= 8; bit++) {
            due("ask(" + bit + ") of a new object", new QuestionBench().ask(bit), BAD);
        }
        for (int bits = 1; bits <= 8; bits++) {
            QuestionBench b = bench(parity(bits));
            b.game(0);
            for (int bit : new int[] {-1, bits, 8, 32, 33, LEAST, GREATEST}) {
                due("ask(" + bit + ") of " + bits + " bits", b.ask(bit), BAD);
            }
            due("they were not asked for", b.ask(bits - 1), 10 * (bits - 1));
            due("it was asked for", b.ask(bits - 1), BAD);
        }
        sentence(38, "NOT SO: what is left is SETTLED");
        QuestionBench b = bench("0011");
        b.game(0);
        due("ask(1)", b.ask(1), 0);
        due("ask(0)", b.ask(0), NOT_SO);
        due("it was not asked for", b.ask(0), NOT_SO);
        lay(b, 1, "2202");
        due("a game that begins settled", b.game(1), 0);
        due("ask(0)", b.ask(0), NOT_SO);
        due("ask(1)", b.ask(1), NOT_SO);
        lay(b, 2, "2201");
        due("open ones settle nothing, and hinder nothing", b.game(2), 1);
        due("a bit that leaves all open, or all as it was", b.ask(1), 11);
        due("ask(0)", b.ask(0), 0);
        due("none is counted", b.count(4), 0);
    }

    private void keeps() {
        sentence(39, "All PLACES are kept: how many tasks");
        QuestionBench b = new QuestionBench();
        for (int p = 0; p < 8; p++) {
            due("keep of " + p, b.keep(), p);
            b.task(p, 8 - p, 0);
        }
        due("keep of all 8", b.keep(), 8);
        for (int p = 0; p < 8; p++) {
            b.clear(p);
        }
        due("back of all 8", b.back(), 8);
        for (int p = 0; p < 8; p++) {
            due("bits at " + p, b.of(p, 1), 8 - p);
        }
        b.move(0, 7);
        due("a task at two places counts twice", b.keep(), 8);
        due("the latest is kept", b.back() * 10 + b.of(7, 1), 88);
    }

    private void backs() {
        sentence(40, "NOTHING: nothing is kept");
        QuestionBench b = bench("01");
        due("back of a new object", b.back(), NOTHING);
        dueSays("a refused back", b, 0, "01");
        due("it is counted", b.count(4), 1);
        sentence(40, "They are as they were kept (still kept): how many tasks");
        QuestionBench empty = new QuestionBench();
        empty.keep();
        empty.task(0, 1, 0);
        due("back to none", empty.back(), 0);
        due("none is there", empty.count(0), 0);
        due("none is met", empty.count(4), 0);
        tell(b, 0, 1, 10);
        b.read(1);
        b.kind(0, 2);
        b.keep();
        for (int time = 1; time <= 3; time++) {
            b.set(0, 0, 2);
            b.set(1, 3, 0);
            b.task(7, 8, 0);
            due("back, time " + time, b.back(), 2);
            due("the first", b.of(0, 0) * 100 + b.say(0, 0) * 10 + b.say(0, 1), 201);
            due("the read", b.of(1, 0) * 1000 + b.of(1, 4), 4102);
            dueSays("back", b, 1, "0001");
            due("what was not kept is not there", b.clear(7), 0);
        }
        b.tell(5);
        b.tree(0, 0);
        b.form(1);
        b.kind(1, 2);
        b.sheet(0, 0, 3);
        b.game(1);
        b.ask(0);
        due("back", b.back(), 2);
        due("numbers, tree and form stay", b.count(1) * 100 + b.count(2) * 10 + b.count(3), 131);
        due("sheets stay", b.lose(0), 1);
        due("the game stays", b.ask(1), 0);
    }

    private void counts() {
        sentence(41, "0 tasks, 1 numbers that wait, 2 NODES of THE TREE, 3 CUBES of THE FORM");
        QuestionBench b = new QuestionBench();
        for (int what = 0; what <= 4; what++) {
            due("count(" + what + ") of a new object", b.count(what), 0);
        }
        for (int p = 0; p < 8; p++) {
            b.task(p, 1, 0);
            due("tasks", b.count(0), p + 1);
        }
        for (int k = 0; k < 101; k++) {
            b.tell(k);
        }
        due("numbers", b.count(1), 100);
        lay(b, 0, parity(8));
        b.tree(0, 1);
        due("nodes", b.count(2), 511);
        lay(b, 1, parity(4));
        b.form(1);
        due("cubes", b.count(3), 8);
        due("met", b.count(4), 0);
        sentence(41, "BAD");
        for (int what : new int[] {-1, 5, LEAST, GREATEST}) {
            due("count(" + what + ")", b.count(what), BAD);
        }
        due("it is not counted", b.count(4), 0);
    }

    private void metEver() {
        sentence(41, "4 how often a call met NOTHING, PLACE, SORT or SIZE ever (poly() and sign(), too)");
        QuestionBench b = bench("01");
        lay(b, 1, "02");
        b.task(2, 4, 0);
        // BAD, NOT SO, OPEN and BIG do not count, nor does -1
        b.say(8, 0);
        b.kind(1, 1);
        b.at(1, 0, 0);
        b.letters(2);
        b.shown(0);
        b.where(2, 0, 1);
        b.poly(8, 0);
        b.sign(1, 0);
        due("none of these", b.count(4), 0);
        b.say(7, 0);
        b.say(0, 2);
        b.sheet(0, 1, 1);
        b.look(0, 0, 0);
        b.sheet(0, 0, -1);
        due("one of each", b.count(4), 4);
        b.poly(7, 0);
        b.sign(7, 0);
        due("poly() and sign(), too", b.count(4), 6);
        b.back();
        b.keep();
        b.back();
        b.count(4);
        due("and back(); a count is no finding", b.count(4), 7);
        for (int k = 0; k < 400; k++) {
            b.depth(7);
        }
        due("many", b.count(4), 407);
    }

    private void order() {
        sentence(TERMS, ORDER);
        QuestionBench b = bench(with(no(5), 0, 2));
        due("letters: OPEN, BIG", b.letters(0), OPEN);
        lay(b, 1, "0011");
        b.game(1);
        b.ask(1);
        due("ask: no bit, SETTLED", b.ask(2), BAD);
        due("ask: asked for, SETTLED", b.ask(1), BAD);
        due("form: an open one of 5 bits", b.form(0), BIG);
        due("none is counted", b.count(4), 0);
    }
}
