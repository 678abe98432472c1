/** Each promise of the document by its number: ordinary inputs, the edges that are named, wrong inputs. */
public final class PromiseTest extends Laying {
    private static final Due DUE = new Due();
    private static int promise;

    public static void main(String[] args) {
        newObject();
        sheets();
        copies();
        tasks();
        kinds();
        saysAndSets();
        worths();
        moves();
        tells();
        puts();
        reads();
        mades();
        sames();
        depthsAndSums();
        trees();
        runs();
        checks();
        settlers();
        polys();
        signs();
        forms();
        lettersOf();
        games();
        keeps();
        counts();
        DUE.end();
    }

    private static void due(String call, long got, long want) {
        DUE.due("promise " + promise + ": " + call, got, want);
    }

    private static void dueSays(String call, QuestionBench b, int p, String want) {
        String got = saysOf(b, p);
        due(call + " made " + got + " where " + want + " is due: alike", got.equals(want) ? 1 : 0, 1);
    }

    private static void newObject() {
        promise = 1;
        QuestionBench b = new QuestionBench();
        for (int p = 0; p < 8; p++) {
            due("say of nothing", b.say(p, 0), NOTHING);
        }
        for (int s = 0; s < 6; s++) {
            due("lose of a missing sheet", b.lose(s), 0);
        }
        due("node without a tree", b.node(0, 0), BAD);
        due("run without a tree", b.run(0), BAD);
        due("cube without a form", b.cube(0), BAD);
        due("ask without a game", b.ask(0), BAD);
        due("shown without a kind", b.shown(0), -1);
        due("back without keep", b.back(), NOTHING);
        for (int what = 0; what < 4; what++) {
            due("count of a new object", b.count(what), 0);
        }
        due("count(4)", b.count(4), 9);
        QuestionBench other = new QuestionBench();
        due("another object's count", other.count(4), 0);
    }

    private static void sheets() {
        QuestionBench b = new QuestionBench();
        promise = 2;
        due("sheet(0, 0, 0)", b.sheet(0, 0, 0), 0);
        due("sheet(5, 3, 256)", b.sheet(5, 3, 256), 256);
        due("sheet(5, 3, 257)", b.sheet(5, 3, 257), BAD);
        due("sheet(6, 0, 1)", b.sheet(6, 0, 1), BAD);
        due("sheet(-1, 0, 1)", b.sheet(-1, 0, 1), BAD);
        due("sheet(0, 4, 1)", b.sheet(0, 4, 1), BAD);
        due("sheet(0, -1, 1)", b.sheet(0, -1, 1), BAD);
        due("sheet(0, 4, -1)", b.sheet(0, 4, -1), BAD);
        due("sheet(0, 0, -1)", b.sheet(0, 0, -1), SIZE);
        due("sheet(0, 0, LEAST)", b.sheet(0, 0, LEAST), SIZE);
        due("sheet(0, 0, GREATEST)", b.sheet(0, 0, GREATEST), BAD);
        due("the sheet is as it was", b.look(5, 3, 255), 2);
        b.write(5, 0, 7);
        due("sheet again", b.sheet(5, 3, 256), 256);
        due("a new sheet is all 0", b.look(5, 3, 0), 2);

        promise = 3;
        due("lose(5)", b.lose(5), 1);
        due("lose(5) again", b.lose(5), 0);
        due("lose of an empty sheet", b.lose(0), 1);
        due("lose(6)", b.lose(6), BAD);
        due("lose(-1)", b.lose(-1), BAD);

        promise = 4;
        b.sheet(0, 0, 3);
        due("write", b.write(0, 2, 1), 3);
        due("write(6)", b.write(6, 0, 1), BAD);
        due("write(-1)", b.write(-1, 0, 1), BAD);
        due("write of a missing one", b.write(1, 9, 1), NOTHING);
        due("write behind the end", b.write(0, 3, 1), PLACE);
        due("write ahead of the start", b.write(0, -1, 1), PLACE);
        long[] values = {128L, 32768L, 2147483648L, Long.MIN_VALUE};
        long[] ones = {256L, 65536L, 4294967296L, 0L};
        for (int sort = 0; sort < 4; sort++) {
            b.sheet(1, sort, 1);
            b.write(1, 0, values[sort]);
            due("look at the first that narrows below 0, sort " + sort, b.look(1, sort, 0), 3);
            b.write(1, 0, ones[sort]);
            due("look at what narrows to 0, sort " + sort, b.look(1, sort, 0), 2);
            b.write(1, 0, values[sort] - 1);
            due("look at the greatest, sort " + sort, b.look(1, sort, 0), 1);
        }

        promise = 5;
        b.sheet(2, 1, 2);
        b.write(2, 0, -4);
        due("look below", b.look(2, 1, 0), 3);
        due("look at 0", b.look(2, 1, 1), 2);
        due("look of another sort and place", b.look(2, 2, 9), SORT);
        due("look behind the end", b.look(2, 1, 2), PLACE);
        due("look ahead of the start", b.look(2, 1, -1), PLACE);
        due("look at a missing one", b.look(4, 1, 0), NOTHING);
        due("look at a missing one by no sort", b.look(4, 4, 0), BAD);
        due("look(6)", b.look(6, 0, 0), BAD);
        due("look by sort -1", b.look(2, -1, 0), BAD);
    }

    private static void copies() {
        promise = 6;
        QuestionBench b = new QuestionBench();
        b.sheet(0, 2, 5);
        for (int i = 0; i < 5; i++) {
            b.write(0, i, i - 2);
        }
        b.sheet(1, 2, 3);
        due("copy", b.copy(0, 2, 1, 0, 3), 3);
        due("came over", b.look(1, 2, 0) * 100 + b.look(1, 2, 1) * 10 + b.look(1, 2, 2), 211);
        due("copy up in itself", b.copy(0, 0, 0, 1, 4), 4);
        due("as they were", b.look(0, 2, 0) * 1000 + b.look(0, 2, 2) * 100 + b.look(0, 2, 3) * 10 + b.look(0, 2, 4), 3321);
        due("copy down in itself", b.copy(0, 1, 0, 0, 4), 4);
        due("as they were", b.look(0, 2, 0) * 1000 + b.look(0, 2, 1) * 100 + b.look(0, 2, 2) * 10 + b.look(0, 2, 3), 3321);
        due("copy of none at the end", b.copy(0, 5, 1, 3, 0), 0);
        due("copy of none behind the end", b.copy(0, 6, 1, 3, 0), PLACE);
        due("copy of too many", b.copy(0, 3, 1, 0, 3), PLACE);
        due("copy to too few", b.copy(0, 0, 1, 1, 3), PLACE);
        due("from below 0", b.copy(0, -1, 1, 0, 1), PLACE);
        due("to below 0", b.copy(0, 0, 1, -1, 1), PLACE);
        due("n below 0", b.copy(0, 0, 1, 0, -1), PLACE);
        due("sum wraps around", b.copy(0, GREATEST, 1, 0, GREATEST), PLACE);
        due("sum wraps around", b.copy(0, 1, 1, 0, GREATEST), PLACE);
        b.sheet(2, 3, 3);
        due("unlike sorts", b.copy(0, 9, 2, 0, 1), SORT);
        due("a missing source", b.copy(4, 0, 2, 0, 1), NOTHING);
        due("a missing target", b.copy(2, 0, 4, 0, 1), NOTHING);
        due("no such source", b.copy(6, 0, 4, 0, 1), BAD);
        due("no such target", b.copy(4, 0, -1, 0, 1), BAD);
        due("met so far", b.count(4), 11);
    }

    private static void tasks() {
        promise = 7;
        QuestionBench b = new QuestionBench();
        b.sheet(0, 0, 3);
        b.write(0, 0, -1);
        b.write(0, 1, 9);
        due("task", b.task(0, 2, 0), 2);
        dueSays("task", b, 0, "2102");
        due("it is a table", b.of(0, 0), 0);
        b.write(0, 0, 1);
        due("a later write changes no task", b.say(0, 0), 2);
        due("task of a sheet that is too long", b.task(1, 1, 0), 0);
        dueSays("task", b, 1, "11");
        due("task of a missing sheet", b.task(2, 8, 1), 0);
        due("all of it says 0", b.of(2, 2) + b.of(2, 3), 0);
        due("its bits", b.of(2, 1), 8);
        b.sheet(2, 3, 0);
        due("task of an empty sheet", b.task(3, 3, 2), 8);
        due("bits 0", b.task(0, 0, 0), BAD);
        due("bits 9", b.task(0, 9, 0), BAD);
        due("place 8", b.task(8, 1, 0), BAD);
        due("place -1", b.task(-1, 1, 0), BAD);
        due("sheet 6", b.task(0, 1, 6), BAD);
        due("sheet -1", b.task(0, 1, -1), BAD);
        dueSays("nothing changed", b, 0, "2102");
    }

    private static void kinds() {
        QuestionBench b = bench(MAJORITY);
        promise = 8;
        due("kind(0, 1)", b.kind(0, 1), 0);
        due("kind(0, 2)", b.kind(0, 2), 1);
        due("kind(0, 0)", b.kind(0, 0), 2);
        due("of(0, 0)", b.of(0, 0), 0);
        due("kind(0, 3)", b.kind(0, 3), BAD);
        due("kind(0, -1)", b.kind(0, -1), BAD);
        due("kind(8, 0)", b.kind(8, 0), BAD);
        due("kind(1, 3)", b.kind(1, 3), BAD);
        due("kind(1, 0)", b.kind(1, 0), NOTHING);
        lay(b, 1, "0121");
        due("an open task as a table", b.kind(1, 0), 0);
        due("an open task as a rising one", b.kind(1, 1), NOT_SO);
        promise = 9;
        due("the least open one", b.shown(0), 2);
        due("twice", b.shown(1), 2);
        promise = 8;
        b.kind(0, 1);
        lay(b, 2, "01010111");
        due("a rising task that is not level", b.kind(2, 2), NOT_SO);
        promise = 9;
        due("shown(0)", b.shown(0), 1);
        due("shown(1)", b.shown(1), 2);
        due("shown(2)", b.shown(2), BAD);
        due("shown(-1)", b.shown(-1), BAD);
        // the first that says 1 may be the greater of the two
        lay(b, 3, "00110011");
        due("kind(3, 2)", b.kind(3, 2), NOT_SO);
        due("the first", b.shown(0), 2);
        due("the second", b.shown(1), 1);
        // one bit more, the least second: 1 falls to 3 and to 5
        lay(b, 4, "01000011");
        due("kind(4, 1)", b.kind(4, 1), NOT_SO);
        due("the first", b.shown(0), 1);
        due("the second", b.shown(1), 3);
        // 0 falls to 7 only by way of others: a pair is a bit apart
        lay(b, 4, "11111110");
        b.kind(4, 1);
        due("the first", b.shown(0), 3);
        due("the second", b.shown(1), 7);
        due("a kind() that is so", b.kind(0, 2), 1);
        due("leaves what was shown", b.shown(0), 3);
        due("a kind() with BAD, too", b.kind(8, 2) == BAD ? b.shown(1) : 0, 7);
        promise = 8;
        due("NOT SO changes no kind", b.of(4, 0), 0);
    }

    private static void saysAndSets() {
        QuestionBench b = bench("0120");
        promise = 10;
        due("say(0, 1)", b.say(0, 1), 1);
        due("say(0, 2)", b.say(0, 2), 2);
        due("say(0, 3)", b.say(0, 3), 0);
        due("say(0, 4)", b.say(0, 4), PLACE);
        due("say(0, -1)", b.say(0, -1), PLACE);
        due("say(1, -1)", b.say(1, -1), NOTHING);
        due("say(8, 0)", b.say(8, 0), BAD);
        due("say(-1, 0)", b.say(-1, 0), BAD);
        promise = 11;
        due("set(0, 2, 1)", b.set(0, 2, 1), 2);
        due("set(0, 2, 2)", b.set(0, 2, 2), 1);
        due("set(0, 2, 0)", b.set(0, 2, 0), 2);
        dueSays("set", b, 0, "0100");
        due("set(0, 4, 0)", b.set(0, 4, 0), PLACE);
        due("set(0, -1, 0)", b.set(0, -1, 0), PLACE);
        due("set(0, 4, 3)", b.set(0, 4, 3), BAD);
        due("set(0, 0, -1)", b.set(0, 0, -1), BAD);
        due("set(8, 0, 0)", b.set(8, 0, 0), BAD);
        due("set(1, 9, 0)", b.set(1, 9, 0), NOTHING);
        due("set(1, 9, 3)", b.set(1, 9, 3), BAD);
        lay(b, 2, "01");
        b.kind(2, 1);
        due("set of a rising task to what it says", b.set(2, 1, 1), 1);
        due("it is a table", b.of(2, 0), 0);
        due("its worth is a table's", b.of(2, 4), 1);
    }

    private static void worths() {
        promise = 12;
        QuestionBench b = bench(MAJORITY);
        due("kind", b.of(0, 0), 0);
        due("bits", b.of(0, 1), 3);
        due("yes", b.of(0, 2), 4);
        due("open", b.of(0, 3), 0);
        due("worth of a table", b.of(0, 4), 3);
        b.kind(0, 2);
        due("worth of a level one", b.of(0, 4), 13);
        tell(b, 1, 12, 0, 10);
        b.read(1);
        due("worth of a read", b.of(1, 4), 102);
        due("kind of a read", b.of(1, 0), 4);
        lay(b, 2, "0001");
        tell(b, 0, 1);
        b.put(3, 2);
        due("worth of a put", b.of(3, 4), 115);
        due("kind of a put", b.of(3, 0), 3);
        lay(b, 4, "01");
        tell(b, 3, 4);
        b.put(5, 2);
        due("worth of a put of a put", b.of(5, 4), 116);
        b.clear(0);
        b.clear(1);
        due("worth when the inner places are empty", b.of(3, 4), 115);
        due("a put becomes level or not, its worth too", b.kind(3, 0), 3);
        due("worth", b.of(3, 4), 5);
        lay(b, 6, "0221");
        due("yes", b.of(6, 2), 1);
        due("open", b.of(6, 3), 2);
        due("of(6, 5)", b.of(6, 5), BAD);
        due("of(6, -1)", b.of(6, -1), BAD);
        due("of(8, 0)", b.of(8, 0), BAD);
        due("of(0, 5)", b.of(0, 5), BAD);
        due("of(0, 0)", b.of(0, 0), NOTHING);
    }

    private static void moves() {
        promise = 13;
        QuestionBench b = bench(MAJORITY);
        due("clear(0)", b.clear(0), 1);
        due("clear(0) again", b.clear(0), 0);
        due("clear(8)", b.clear(8), BAD);
        due("clear(-1)", b.clear(-1), BAD);
        due("nothing is there", b.say(0, 0), NOTHING);
        promise = 14;
        lay(b, 0, "0011");
        b.kind(0, 1);
        due("move(0, 7)", b.move(0, 7), 2);
        due("its kind goes along", b.of(7, 0), 1);
        due("still at 0", b.of(0, 0), 1);
        due("two places", b.count(0), 2);
        b.set(7, 0, 1);
        due("a set at one place leaves the other", b.say(0, 0), 0);
        due("and its kind", b.of(0, 0), 1);
        due("move to itself", b.move(0, 0), 2);
        due("move(1, 0)", b.move(1, 0), NOTHING);
        due("move(1, 8)", b.move(1, 8), BAD);
        due("move(8, 1)", b.move(8, 1), BAD);
        due("move(-1, 1)", b.move(-1, 1), BAD);
    }

    private static void tells() {
        promise = 15;
        QuestionBench b = new QuestionBench();
        for (int k = 1; k <= 100; k++) {
            due("tell", b.tell(k % 2 == 0 ? LEAST : GREATEST), k);
        }
        due("tell of one too many", b.tell(0), BAD);
        due("100 wait", b.count(1), 100);
        b.read(0);
        due("none wait", b.count(1), 0);
        due("tell", b.tell(0), 1);
    }

    private static void puts() {
        promise = 16;
        QuestionBench b = bench("0010");
        lay(b, 1, "0001");
        lay(b, 2, "10");
        tell(b, 1, 2);
        due("put", b.put(3, 0), 3);
        // the outer says yes when the first inner says no and the second yes: not (b0 and b1), and not b2
        dueSays("put", b, 3, "11100000");
        due("none wait", b.count(1), 0);
        tell(b, 2, 1);
        due("put in the other order", b.put(3, 0), 3);
        // b0 of the first inner: NOT; outer: NOT first and second
        dueSays("put", b, 3, "00000001");
        tell(b, 0, 1);
        due("put onto its own outer", b.put(0, 0), 4);
        due("its kind", b.of(0, 0), 3);

        findingsOfPut();
    }

    private static void findingsOfPut() {
        QuestionBench b = bench("0010");
        lay(b, 1, "0201");
        lay(b, 2, "0".repeat(128));
        tell(b, 0, 0);
        due("no place p", b.put(8, 0), BAD);
        due("none wait then", b.count(1), 0);
        tell(b, 0, 0);
        due("no place q", b.put(0, -1), BAD);
        due("none wait then", b.count(1), 0);
        tell(b, 9);
        due("no outer", b.put(0, 7), NOTHING);
        due("none wait then", b.count(1), 0);
        due("none wait at all", b.put(3, 0), BAD);
        tell(b, 0, 0, 0);
        due("too many wait", b.put(3, 0), BAD);
        tell(b, 7, 8);
        due("one is no place", b.put(3, 0), BAD);
        tell(b, -1, 0);
        due("one is no place", b.put(3, 0), BAD);
        int met = b.count(4);
        tell(b, 7, 6);
        due("one has none", b.put(3, 0), NOTHING);
        due("that is met once", b.count(4) - met, 1);
        tell(b, 2, 1);
        due("one is open, and it is too big", b.put(3, 0), OPEN);
        tell(b, 1, 7);
        due("one has none, ahead of an open one", b.put(3, 0), NOTHING);
        tell(b, 0, 0);
        due("the outer is open", b.put(3, 1), OPEN);
        tell(b, 2, 0);
        due("9 bits", b.put(3, 0), BIG);
        due("none wait then", b.count(1), 0);
        due("nothing came of these", b.count(0), 3);
        lay(b, 3, "0".repeat(64));
        tell(b, 3, 0);
        due("8 bits", b.put(4, 0), 8);
    }

    private static void reads() {
        promise = 17;
        QuestionBench b = new QuestionBench();
        tell(b, 0);
        due("one bit", b.read(0), 1);
        dueSays("read", b, 0, "01");
        tell(b, 0, 12, 12, 12);
        due("not not not", b.read(0), 1);
        dueSays("read", b, 0, "10");
        tell(b, 2, 0, 12, 1, 11, 10);
        due("b2 and (not b0 or b1)", b.read(1), 3);
        dueSays("read", b, 1, "00001011");
        due("none wait", b.count(1), 0);
        tell(b, 7, 6, 10, 5, 10, 4, 10, 3, 10, 2, 10, 1, 10, 0, 10);
        due("8 bits", b.read(2), 8);
        due("their and", b.of(2, 2) * 10 + b.say(2, 255), 11);
        tell(b, 0, 1, 2, 3, 4, 5, 6, 7, 11, 11, 11, 11, 11, 11, 11);
        due("8 bits untaken", b.read(2), 8);
        due("their or", b.of(2, 2) * 10 + b.say(2, 0), 2550);
        int[][] wrong = {
            {}, {1}, {0, 0, 10}, {0, 2, 10}, {0, 1}, {10}, {0, 10}, {12}, {0, 8, 10}, {0, 1, 13}, {0, -1, 10},
            {0, 12, 9}, {0, 1, 10, 11}, {LEAST}, {GREATEST}, {20}, {32}, {0, 10, 1}, {0, 1, 10, 10, 2},
            {0, 1, 10, 2, 10, 3, 10, 4, 10, 5, 10, 6, 10, 7, 10, 8, 10}
        };
        for (int[] numbers : wrong) {
            tell(b, numbers);
            due("read of " + java.util.Arrays.toString(numbers), b.read(3), BAD);
            due("none wait then", b.count(1), 0);
        }
        due("nothing came of these", b.clear(3), 0);
        tell(b, 0);
        due("no place", b.read(8), BAD);
        due("none wait then", b.count(1), 0);
        tell(b, 0);
        due("no place", b.read(-1), BAD);
    }

    private static void mades() {
        promise = 18;
        QuestionBench b = bench("01120200");
        b.kind(0, 0);
        due("not", b.made(0, 1, 0, 99), 3);
        dueSays("not", b, 1, "10021211");
        due("dual", b.made(0, 1, 1, -1), 3);
        dueSays("dual", b, 1, "11212001");
        due("bit 1 is 0", b.made(0, 1, 2, 1), 2);
        dueSays("bit 1 is 0", b, 1, "0102");
        due("bit 0 is 1", b.made(0, 1, 3, 0), 2);
        dueSays("bit 0 is 1", b, 1, "1220");
        due("bit 2 is 1", b.made(0, 1, 3, 2), 2);
        dueSays("bit 2 is 1", b, 1, "0200");
        due("bit 2 turned", b.made(0, 1, 4, 2), 3);
        dueSays("bit 2 turned", b, 1, "02000112");
        due("bit 3", b.made(0, 1, 2, 3), BAD);
        due("bit 3", b.made(0, 1, 3, 3), BAD);
        due("bit 3", b.made(0, 1, 4, 3), BAD);
        due("bit -1", b.made(0, 1, 4, -1), BAD);
        due("how 5", b.made(0, 1, 5, 0), BAD);
        due("how -1", b.made(0, 1, -1, 0), BAD);
        due("place 8", b.made(8, 1, 0, 0), BAD);
        due("place 8", b.made(0, 8, 0, 0), BAD);
        due("nothing", b.made(7, 1, 2, 9), NOTHING);
        due("nothing, no how", b.made(7, 1, 5, 9), BAD);
        lay(b, 2, "01");
        due("one bit", b.made(2, 2, 2, 0), BIG);
        due("one bit", b.made(2, 2, 3, 0), BIG);
        due("one bit, no such", b.made(2, 2, 3, 1), BAD);
        due("one bit turned", b.made(2, 2, 4, 0), 1);
        dueSays("one bit turned", b, 2, "10");
        lay(b, 3, MAJORITY);
        b.kind(3, 1);
        due("made of a rising one", b.made(3, 3, 1, 0), 3);
        dueSays("the majority is its own dual", b, 3, MAJORITY);
        due("it is a table", b.of(3, 0) * 100 + b.of(3, 4), 3);
    }

    private static void sames() {
        promise = 19;
        QuestionBench b = bench("0121");
        b.move(0, 1);
        due("same", b.same(0, 1), 1);
        b.set(1, 2, 0);
        due("open is not no", b.same(0, 1), 0);
        lay(b, 2, "01");
        lay(b, 3, "0101");
        due("other bits", b.same(2, 3), 0);
        due("other bits", b.same(3, 2), 0);
        b.kind(3, 1);
        lay(b, 4, "0101");
        due("other kinds", b.same(3, 4), 1);
        due("itself", b.same(0, 0), 1);
        due("nothing", b.same(7, 0), NOTHING);
        due("nothing", b.same(0, 7), NOTHING);
        due("nothing, no place", b.same(7, 8), BAD);
        due("no place", b.same(-1, 0), BAD);
        int met = b.count(4);
        due("two that are not there", b.same(6, 7), NOTHING);
        due("are met by one call", b.count(4) - met, 1);
    }

    private static void depthsAndSums() {
        String[] says = {"00", "01", "22", "0000", "0111", "0221", "2012", MAJORITY, PARITY, CHOICE, and(8), "00001110"};
        int[] depths = {0, 1, 0, 0, 2, 1, 1, 3, 3, 2, 8, 3};
        int[] sums = {0, 2, 0, 0, 6, 4, 4, 20, 24, 16, 510, 14};
        for (int k = 0; k < says.length; k++) {
            QuestionBench b = bench(says[k]);
            promise = 20;
            due("depth of " + says[k], b.depth(0), depths[k]);
            promise = 21;
            due("sum of " + says[k], b.sum(0), sums[k]);
            promise = 20;
            due("depth behind sum, of " + says[k], b.depth(0), depths[k]);
        }
        QuestionBench b = bench(PARITY);
        promise = 20;
        due("depth", b.depth(0), 3);
        b.set(0, 1, 2);
        b.set(0, 2, 2);
        b.set(0, 4, 2);
        b.set(0, 7, 2);
        due("depth when a set changed it", b.depth(0), 0);
        due("depth(1)", b.depth(1), NOTHING);
        due("depth(8)", b.depth(8), BAD);
        due("depth(-1)", b.depth(-1), BAD);
        promise = 21;
        due("sum(1)", b.sum(1), NOTHING);
        due("sum(8)", b.sum(8), BAD);
        due("sum(-1)", b.sum(-1), BAD);
    }

    private static void dueNodes(QuestionBench b, int[][] nodes) {
        for (int k = 0; k < nodes.length; k++) {
            for (int what = 0; what < 4; what++) {
                due("node(" + k + ", " + what + ")", b.node(k, what), nodes[k][what]);
            }
        }
    }

    private static void trees() {
        // b2 and (b0 or else b1): the least bit by depth is 0, by sum it is 2
        QuestionBench b = bench("00000110");
        promise = 22;
        due("tree(0, 1)", b.tree(0, 1), 9);
        promise = 23;
        dueNodes(b, new int[][] {
            {2, 0, 1, 2}, {20, 1, -1, -1}, {0, 1, 3, 6}, {1, 2, 4, 5}, {20, 3, -1, -1}, {21, 3, -1, -1},
            {1, 2, 7, 8}, {21, 3, -1, -1}, {20, 3, -1, -1}
        });
        promise = 22;
        due("tree(0, 0)", b.tree(0, 0), 11);
        promise = 23;
        dueNodes(b, new int[][] {
            {0, 0, 1, 6}, {1, 1, 2, 3}, {20, 2, -1, -1}, {2, 2, 4, 5}, {20, 3, -1, -1}, {21, 3, -1, -1},
            {1, 1, 7, 10}, {2, 2, 8, 9}, {20, 3, -1, -1}, {21, 3, -1, -1}, {20, 2, -1, -1}
        });
        promise = 22;
        due("a finding leaves the tree", b.tree(0, 2), BAD);
        due("best -1", b.tree(0, -1), BAD);
        due("tree(8, 0)", b.tree(8, 0), BAD);
        due("tree(1, 2)", b.tree(1, 2), BAD);
        due("tree(1, 0)", b.tree(1, 0), NOTHING);
        due("NODES", b.count(2), 11);
        promise = 23;
        due("node(11, 0)", b.node(11, 0), BAD);
        due("node(-1, 0)", b.node(-1, 0), BAD);
        due("node(0, 4)", b.node(0, 4), BAD);
        due("node(0, -1)", b.node(0, -1), BAD);
        b.clear(0);
        due("the tree stays when its task goes", b.node(0, 0), 0);
        promise = 22;
        lay(b, 0, "2222");
        due("tree of an open task", b.tree(0, 0), 1);
        due("says 2", b.node(0, 0), 22);
        b = bench(parity(8));
        due("the greatest tree", b.tree(0, 1), 511);
        due("its last node", b.node(510, 0), 20);
        due("the looks ahead of it", b.node(510, 1), 8);
        due("the middle", b.node(0, 3), 256);
    }

    private static void runs() {
        promise = 24;
        QuestionBench b = bench(CHOICE);
        b.tree(0, 0);
        for (int x = 0; x < 8; x++) {
            due("run(" + x + ")", b.run(x), 20 + b.say(0, x));
            due("run with bits that do not count", b.run(x + 248), 20 + b.say(0, x));
        }
        due("run(-1)", b.run(-1), BAD);
        due("run(256)", b.run(256), BAD);
        lay(b, 0, "0122");
        b.tree(0, 0);
        due("run(1)", b.run(1), 11);
        // bit 1 tells the two apart; a look at bit 0 leaves an open branch
        lay(b, 0, "0212");
        b.tree(0, 0);
        due("run(1)", b.run(1), 10);
        due("run(3)", b.run(3), 11);
        lay(b, 0, "01102222");
        b.tree(0, 0);
        due("all of bit 2 is open, but the tree looks at bit 0 first", b.run(4), 20);
        lay(b, 0, "22");
        b.tree(0, 1);
        due("run of an open one", b.run(77), 2);
    }

    private static void checks() {
        promise = 25;
        QuestionBench b = bench(CHOICE);
        tell(b, 0, 1, 20, 21, 2, 20, 21);
        due("the tree", b.check(0), 0);
        due("none wait", b.count(1), 0);
        tell(b, 0, 1, 20, 21, 2, 21, 20);
        due("a wrong one", b.check(0), 2);
        tell(b, 21);
        due("yes to all", b.check(0), 1);
        tell(b, 1, 20, 1, 20, 21);
        due("a bit looked at again", b.check(0), 4);
        lay(b, 1, "2021");
        tell(b, 1, 20, 21);
        due("open ones do not count", b.check(1), 0);
        int[][] wrong = {
            {}, {0}, {0, 20}, {20, 21}, {0, 20, 21, 20}, {2, 20, 21}, {22}, {-1, 20, 21}, {8, 20, 21}, {19}, {10, 20, 21},
            {0, 1, 20, 21}, {20, 0, 20, 21}, {LEAST, 20, 21}, {GREATEST}, {0, 20, 22}
        };
        for (int[] numbers : wrong) {
            tell(b, numbers);
            due("check of " + java.util.Arrays.toString(numbers), b.check(1), NOT_SO);
            due("none wait then", b.count(1), 0);
        }
        tell(b, 0, 20, 21);
        due("no place", b.check(8), BAD);
        due("none wait then", b.count(1), 0);
        tell(b, 0, 20, 21);
        due("nothing", b.check(7), NOTHING);
        due("none wait then", b.count(1), 0);
        for (int k = 0; k < 49; k++) {
            tell(b, 0, 20);
        }
        tell(b, 21);
        lay(b, 2, "0101");
        due("a long tree", b.check(2), 0);
        due("THE TREE is not told ones", b.count(2), 0);
        for (int k = 0; k < 49; k++) {
            b.tell(0);
        }
        for (int k = 0; k < 50; k++) {
            b.tell(k == 0 ? 20 : 21);
        }
        due("a tree long on the other side", b.check(2), 0);
    }

    private static void settlers() {
        // yes at 3 and at 12 alone: at 0 no bit alone matters, two blocks do
        QuestionBench b = bench("0001000000001000");
        promise = 26;
        due("sensitive", b.at(0, 0, 0), 0);
        due("blocks", b.at(0, 1, 0), 2);
        due("proof", b.at(0, 2, 0), 2);
        due("sensitive", b.at(0, 0, 3), 4);
        due("blocks", b.at(0, 1, 3), 4);
        due("proof", b.at(0, 2, 3), 4);
        due("sensitive", b.at(0, 0, 1), 1);
        due("blocks", b.at(0, 1, 1), 2);
        due("at 15", b.at(0, 1, 15) * 10 + b.at(0, 2, 15), 22);
        due("what 3", b.at(0, 3, 0), BAD);
        due("what -1", b.at(0, -1, 0), BAD);
        due("input 16", b.at(0, 0, 16), PLACE);
        due("input -1", b.at(0, 0, -1), PLACE);
        due("place 8", b.at(8, 0, 0), BAD);
        due("nothing", b.at(1, 0, 0), NOTHING);
        due("nothing, what 3", b.at(1, 3, 0), BAD);
        lay(b, 1, "02");
        due("open, input 9", b.at(1, 0, 9), OPEN);

        promise = 27;
        due("most sensitive of no", b.most(0, 0, 0), 1);
        due("most sensitive of yes", b.most(0, 0, 1), 4);
        due("most blocks of no", b.most(0, 1, 0), 2);
        due("most blocks of all", b.most(0, 1, 2), 4);
        due("most proof of no", b.most(0, 2, 0), 2);
        due("side 3", b.most(0, 0, 3), BAD);
        due("side -1", b.most(0, 0, -1), BAD);
        due("what 3", b.most(0, 3, 0), BAD);
        due("place -1", b.most(-1, 0, 0), BAD);
        due("nothing", b.most(2, 0, 0), NOTHING);
        due("open", b.most(1, 0, 0), OPEN);
        lay(b, 3, "0000");
        due("no yes", b.most(3, 1, 1), 0);
        due("all no", b.most(3, 1, 2), 0);

        promise = 28;
        due("where sensitive of no", b.where(0, 0, 0), 1);
        due("where sensitive of yes", b.where(0, 0, 1), 3);
        due("where of all", b.where(0, 0, 2), 3);
        due("where blocks of no", b.where(0, 1, 0), 0);
        due("no yes", b.where(3, 1, 1), -1);
        due("all alike", b.where(3, 2, 0), 0);
        due("side 3", b.where(0, 0, 3), BAD);
        due("what 3", b.where(0, 3, 0), BAD);
        due("place 8", b.where(8, 0, 0), BAD);
        due("nothing", b.where(2, 0, 0), NOTHING);
        due("open", b.where(1, 0, 0), OPEN);
    }

    private static void polys() {
        QuestionBench b = bench(PARITY);
        promise = 29;
        int[] parity = {0, 1, 1, -2, 1, -2, -2, 4};
        for (int s = 0; s < 8; s++) {
            due("poly(0, " + s + ")", b.poly(0, s), parity[s]);
        }
        due("poly(0, 8)", b.poly(0, 8), 0);
        due("poly(0, 9)", b.poly(0, 9), 0);
        due("poly(0, 256)", b.poly(0, 256), 0);
        due("poly(0, -1)", b.poly(0, -1), 0);
        due("poly(8, 0)", b.poly(8, 0), 0);
        due("no finding is met so far", b.count(4), 0);
        due("poly(1, 0)", b.poly(1, 0), 0);
        due("NOTHING is met", b.count(4), 1);
        lay(b, 1, "12");
        due("poly of an open task", b.poly(1, 0), 0);
        due("OPEN is not counted", b.count(4), 1);
        lay(b, 1, "1110");
        due("1 ahead of 1", b.poly(1, 0), 1);
        due("not and", b.poly(1, 3), -1);
        promise = 30;
        due("degree of the parity", b.degree(0), 3);
        lay(b, 2, "11111111");
        due("degree of yes", b.degree(2), 0);
        lay(b, 2, "0000");
        due("degree of no", b.degree(2), 0);
        // not all alike of 3 bits: 3 looks, degree 2
        lay(b, 2, "01111110");
        due("degree below depth", b.degree(2) * 10 + b.depth(2), 23);
        lay(b, 2, "20");
        due("open", b.degree(2), OPEN);
        due("nothing", b.degree(3), NOTHING);
        due("place 8", b.degree(8), BAD);
    }

    private static void signs() {
        QuestionBench b = bench("0001");
        promise = 31;
        int[] and = {2, 2, 2, -2};
        for (int s = 0; s < 4; s++) {
            due("sign(0, " + s + ")", b.sign(0, s), and[s]);
        }
        due("sign(0, 4)", b.sign(0, 4), 0);
        due("sign(0, -1)", b.sign(0, -1), 0);
        due("sign(0, 256)", b.sign(0, 256), 0);
        due("sign(-1, 0)", b.sign(-1, 0), 0);
        due("none is met", b.count(4), 0);
        due("sign(1, 0)", b.sign(1, 0), 0);
        due("NOTHING is met", b.count(4), 1);
        lay(b, 1, PARITY);
        due("the parity's", b.sign(1, 7), 8);
        due("all others", b.sign(1, 0) + b.sign(1, 3), 0);
        lay(b, 2, "02");
        due("open", b.sign(2, 0), 0);
        promise = 32;
        due("energy(0, 0)", b.energy(0, 0), 4);
        due("energy(0, 1)", b.energy(0, 1), 8);
        due("energy(0, 2)", b.energy(0, 2), 4);
        due("energy(0, 3)", b.energy(0, 3), 0);
        due("energy(0, 8)", b.energy(0, 8), 0);
        due("energy(0, 9)", b.energy(0, 9), BAD);
        due("energy(0, -1)", b.energy(0, -1), BAD);
        due("energy(2, 9)", b.energy(2, 9), OPEN);
        due("energy(3, 9)", b.energy(3, 9), NOTHING);
        due("energy(8, 0)", b.energy(8, 0), BAD);
        b.task(4, 8, 5);
        due("energy of no", b.energy(4, 0), 65536);
        promise = 33;
        due("pull(0, 0)", b.pull(0, 0), 2);
        due("pull of the parity", b.pull(1, 2), 8);
        lay(b, 3, "00110011");
        due("pull of bit 0", b.pull(3, 0), 0);
        due("pull of bit 1", b.pull(3, 1), 8);
        due("no such bit", b.pull(0, 2), BAD);
        due("no such bit", b.pull(0, -1), BAD);
        due("open, no such bit", b.pull(2, 9), OPEN);
        due("nothing", b.pull(7, 9), NOTHING);
        due("place 8", b.pull(8, 0), BAD);
    }

    private static void dueForm(String says, int... numbers) {
        QuestionBench b = bench(says);
        promise = 34;
        due("form of " + says, b.form(0), numbers.length);
        promise = 35;
        for (int k = 0; k < numbers.length; k++) {
            due("cube(" + k + ") of " + says, b.cube(k), numbers[k]);
        }
        due("one more of " + says, b.cube(numbers.length), BAD);
    }

    private static void forms() {
        dueForm("00");
        dueForm("02");
        dueForm("11", 2);
        dueForm("01", 1);
        dueForm(PARITY, 1, 3, 9, 13);
        dueForm(MAJORITY, 4, 10, 14);
        // a narrow cube goes ahead of a wide one when as few are enough, as its number is lesser
        dueForm("0111", 1, 5);
        dueForm("0211", 5);
        dueForm("0001", 4);
        // open inputs make wider cubes, and need none of their own
        dueForm("2221", 4);
        dueForm("2000000000000002");
        dueForm("1".repeat(16), 80);
        // six inputs in a ring: two rows of three cubes, the one that begins lesser
        dueForm("01111110", 7, 21, 11);
        promise = 34;
        QuestionBench b = bench(MAJORITY);
        b.form(0);
        due("form(1)", b.form(1), NOTHING);
        due("form(8)", b.form(8), BAD);
        due("form(-1)", b.form(-1), BAD);
        lay(b, 1, "0".repeat(32));
        due("5 bits", b.form(1), BIG);
        due("a finding leaves the form", b.count(3), 3);
        b.set(0, 0, 1);
        due("and so does a set", b.cube(0), 4);
        promise = 35;
        due("cube(3)", b.cube(3), BAD);
        due("cube(-1)", b.cube(-1), BAD);
        lay(b, 2, "00");
        b.form(2);
        due("an empty form has none", b.cube(0), BAD);
        lay(b, 3, parity(4));
        promise = 34;
        due("the longest form", b.form(3), 8);
    }

    private static void lettersOf() {
        promise = 36;
        String[] says = {"00", "11", "01", "10", "0110", "0001", "1101", "0000", "0011", MAJORITY, PARITY, CHOICE,
            "11111111", "00001111", "01101111", "01111110", "10000001", "00000110"};
        int[] letters = {0, 0, 1, 1, 4, 2, 2, 0, 1, 5, 10, 4, 0, 1, 5, 6, 6, 5};
        for (int k = 0; k < says.length; k++) {
            due("letters of " + says[k], bench(says[k]).letters(0), letters[k]);
        }
        QuestionBench b = bench("02");
        due("open", b.letters(0), OPEN);
        lay(b, 0, "0".repeat(15) + "2");
        due("open and too big", b.letters(0), OPEN);
        lay(b, 0, "0".repeat(16));
        due("too big", b.letters(0), BIG);
        due("nothing", b.letters(1), NOTHING);
        due("place 8", b.letters(8), BAD);
        due("place -1", b.letters(-1), BAD);
    }

    private static void games() {
        QuestionBench b = bench(and(8));
        promise = 37;
        due("game(0)", b.game(0), 8);
        promise = 38;
        for (int k = 0; k < 7; k++) {
            due("ask(" + k + ")", b.ask(k), 10 * (7 - k) + 1);
        }
        due("ask(0) again", b.ask(0), BAD);
        due("ask(7)", b.ask(7), 0);
        due("ask(7) again", b.ask(7), BAD);
        due("ask(8)", b.ask(8), BAD);
        due("ask(-1)", b.ask(-1), BAD);
        promise = 37;
        lay(b, 1, CHOICE);
        due("game(1)", b.game(1), 2);
        b.clear(1);
        promise = 38;
        due("as it was: a bit that does not shorten it", b.ask(1), 20);
        due("ask(0)", b.ask(0), 11);
        due("ask(3)", b.ask(3), BAD);
        due("ask(2)", b.ask(2), 0);
        due("nothing is left to ask", b.ask(1), BAD);
        promise = 37;
        due("a finding leaves the game", b.game(1), NOTHING);
        due("place 8", b.game(8), BAD);
        due("ask(2) still", b.ask(2), BAD);
        lay(b, 2, "0022");
        due("a game that is settled", b.game(2), 0);
        promise = 38;
        due("ask(0)", b.ask(0), NOT_SO);
        due("it was not asked for then", b.ask(0), NOT_SO);
        due("no such bit", b.ask(2), BAD);
        lay(b, 3, MAJORITY);
        b.game(3);
        b.ask(2);
        b.game(3);
        due("a new game begins anew", b.ask(2), 20);
        b.depth(0);
        b.sum(0);
        due("other calls leave the game", b.ask(0), 11);
    }

    private static void keeps() {
        promise = 39;
        QuestionBench b = new QuestionBench();
        due("keep of none", b.keep(), 0);
        promise = 40;
        lay(b, 0, "01");
        due("back to none", b.back(), 0);
        due("none is there", b.count(0), 0);
        promise = 39;
        lay(b, 0, "0111");
        b.kind(0, 1);
        lay(b, 3, PARITY);
        due("keep", b.keep(), 2);
        promise = 40;
        b.set(0, 0, 1);
        b.clear(3);
        lay(b, 7, "01");
        b.tell(5);
        b.tree(7, 0);
        due("back", b.back(), 2);
        due("as it was", b.say(0, 0), 0);
        due("of its kind", b.of(0, 0), 1);
        due("there again", b.of(3, 1), 3);
        due("not there", b.of(7, 0), NOTHING);
        due("what waits stays", b.count(1), 1);
        due("the tree stays", b.count(2), 3);
        b.set(0, 0, 2);
        b.set(3, 0, 2);
        due("back again", b.back(), 2);
        due("as it was", b.say(0, 0) + b.say(3, 0), 0);
        due("what was met stays met", b.count(4), 1);
        promise = 39;
        b.clear(0);
        due("keep again", b.keep(), 1);
        due("back", b.back(), 1);
    }

    private static void counts() {
        promise = 41;
        QuestionBench b = bench(MAJORITY);
        b.move(0, 5);
        b.tree(0, 0);
        b.form(0);
        tell(b, 1, 2, 3);
        due("tasks", b.count(0), 2);
        due("waiting", b.count(1), 3);
        due("nodes", b.count(2), 11);
        due("cubes", b.count(3), 3);
        due("met", b.count(4), 0);
        due("count(5)", b.count(5), BAD);
        due("count(-1)", b.count(-1), BAD);
        b.tree(8, 0);
        b.kind(0, 7);
        b.ask(0);
        b.check(0);
        due("BAD and NOT SO are not met", b.count(4), 0);
        int met = 0;
        b.sheet(0, 0, -1);
        due("SIZE", b.count(4), ++met);
        b.sheet(0, 0, 1);
        b.look(0, 1, 0);
        due("SORT", b.count(4), ++met);
        b.look(0, 0, 1);
        due("PLACE", b.count(4), ++met);
        b.at(0, 0, 8);
        due("PLACE of at", b.count(4), ++met);
        int[] answers = {
            b.kind(7, 0), b.say(7, 0), b.set(7, 0, 0), b.of(7, 0), b.move(7, 0), b.put(0, 7), b.made(7, 0, 0, 0),
            b.same(7, 0), b.depth(7), b.sum(7), b.tree(7, 0), b.check(7), b.at(7, 0, 0), b.most(7, 0, 0),
            b.where(7, 0, 0), b.degree(7), b.energy(7, 0), b.pull(7, 0), b.form(7), b.letters(7), b.game(7), b.back(),
            b.write(1, 0, 0), b.look(1, 0, 0), b.copy(0, 0, 1, 0, 0)
        };
        for (int answer : answers) {
            due("NOTHING", answer, NOTHING);
        }
        due("all of these", b.count(4), met + answers.length);
        b.poly(7, 0);
        b.sign(7, 0);
        due("poly and sign, too", b.count(4), met + answers.length + 2);
    }
}
