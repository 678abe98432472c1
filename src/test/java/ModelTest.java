import java.util.Random;

/** Long runs of calls, some of them wrong, on the program and on the plain telling of the document at once. */
public final class ModelTest {
    private static final int RUNS = 1500;
    private static final int CALLS = 512;
    private static final int[] EDGES = {Integer.MIN_VALUE, -256, -1, 0, 1, 2, 3, 4, 5, 6, 7, 8, 9, 99, 100, 255, 256, 257, Integer.MAX_VALUE};

    private final Due due = new Due();
    private final Random random = new Random(20261116);
    private QuestionBench bench;
    private PlainBench plain;
    private int mostBits;
    private int run;

    public static void main(String[] args) {
        new ModelTest().all();
    }

    private void all() {
        smallTasks();
        for (run = 0; run < RUNS; run++) {
            bench = new QuestionBench();
            plain = new PlainBench();
            // tasks of many bits are dear for the plain telling, so most runs have small ones
            mostBits = run % 100 == 0 ? 8 : run % 10 == 0 ? 6 : run % 3 == 0 ? 3 : 4;
            int call = 0;
            while (call < CALLS) {
                call += step();
            }
        }
        due.end();
    }

    /** Every TOLD task of 1 to 3 bits. */
    private void smallTasks() {
        for (int bits = 1; bits <= 3; bits++) {
            for (int says = 0; says < 1 << (1 << bits); says++) {
                bench = new QuestionBench();
                plain = new PlainBench();
                bench.task(0, bits, 0);
                plain.task(0, bits, 0);
                for (int x = 0; x < 1 << bits; x++) {
                    same("set", bench.set(0, x, says >> x & 1), plain.set(0, x, says >> x & 1));
                }
                String task = "task " + says + " of " + bits + " bits: ";
                same(task + "letters", bench.letters(0), plain.letters(0));
                same(task + "depth", bench.depth(0), plain.depth(0));
                same(task + "sum", bench.sum(0), plain.sum(0));
                same(task + "degree", bench.degree(0), plain.degree(0));
                same(task + "form", bench.form(0), plain.form(0));
                for (int k = 0; k <= plain.count(3); k++) {
                    same(task + "cube " + k, bench.cube(k), plain.cube(k));
                }
                for (int what = 0; what < 9; what++) {
                    same(task + "most " + what, bench.most(0, what / 3, what % 3), plain.most(0, what / 3, what % 3));
                    same(task + "where " + what, bench.where(0, what / 3, what % 3), plain.where(0, what / 3, what % 3));
                }
            }
        }
    }

    private int step() {
        int choice = random.nextInt(100);
        if (choice < 6) return newSheet();
        if (choice < 12) return newTask();
        if (choice < 17) return toldNumbers();
        return single(random.nextInt(41));
    }

    private void same(String call, int got, int want) {
        due.due("run " + run + ": " + call, got, want);
    }

    private int pick(int below) {
        return random.nextInt(25) == 0 ? EDGES[random.nextInt(EDGES.length)] : random.nextInt(below);
    }

    private int place() {
        return pick(8);
    }

    private int newSheet() {
        int s = random.nextInt(6);
        int sort = random.nextInt(4);
        int n = random.nextInt(4) == 0 ? random.nextInt(257) : 1 << random.nextInt(mostBits + 1);
        same("sheet(" + s + ", " + sort + ", " + n + ")", bench.sheet(s, sort, n), plain.sheet(s, sort, n));
        int calls = 1;
        int open = random.nextInt(3);
        for (int i = 0; i < n && calls < 40; i++) {
            if (random.nextBoolean()) continue;
            long v = open == 0 && random.nextInt(4) == 0 ? -1 : random.nextInt(8) == 0 ? random.nextLong() : 1;
            same("write(" + s + ", " + i + ", " + v + ")", bench.write(s, i, v), plain.write(s, i, v));
            calls++;
        }
        return calls;
    }

    /** A task that is TOLD more often than sheets make one, as many calls ask for that. */
    private int newTask() {
        int p = random.nextInt(8);
        int bits = 1 + random.nextInt(mostBits);
        same("task(" + p + ", " + bits + ", 5)", bench.task(p, bits, 5), plain.task(p, bits, 5));
        int calls = 1;
        int sort = random.nextInt(4);
        for (int x = 0; x < 1 << bits && calls < 70; x++) {
            int v = sort == 0 ? random.nextInt(3) : sort == 1 ? Integer.bitCount(x) > bits / 2 ? 1 : 0 : random.nextInt(2);
            if (random.nextInt(20) == 0) continue;
            same("set(" + p + ", " + x + ", " + v + ")", bench.set(p, x, v), plain.set(p, x, v));
            calls++;
        }
        return calls;
    }

    private int toldNumbers() {
        int sort = random.nextInt(4);
        int calls = 0;
        if (sort == 0) {
            for (int j = 1 + random.nextInt(3); j > 0; j--) calls += tellOne(place());
            int p = place();
            int q = place();
            same("put(" + p + ", " + q + ")", bench.put(p, q), plain.put(p, q));
        } else if (sort == 1) {
            calls += tellFormula(1 + random.nextInt(Math.min(8, mostBits)));
            int p = place();
            same("read(" + p + ")", bench.read(p), plain.read(p));
        } else if (sort == 2) {
            calls += tellTree(1 + random.nextInt(4));
            int p = place();
            same("check(" + p + ")", bench.check(p), plain.check(p));
        } else {
            calls += tellTheTree();
        }
        return calls + 1;
    }

    private int tellOne(int v) {
        same("tell(" + v + ")", bench.tell(v), plain.tell(v));
        return 1;
    }

    private int tellFormula(int bits) {
        int[] order = random.ints(0, 1000).limit(bits).toArray();
        int calls = 0;
        int untaken = 0;
        int next = 0;
        int shift = random.nextInt(bits);
        while (next < order.length || untaken > 1) {
            if (random.nextInt(60) == 0) calls += tellOne(pick(14));
            if (untaken > 0 && order[next % bits] % 3 == 0 && random.nextBoolean()) {
                calls += tellOne(12);
            } else if (untaken > 1 && (next == bits || random.nextBoolean())) {
                calls += tellOne(10 + random.nextInt(2));
                untaken--;
            } else if (next < bits) {
                calls += tellOne((next + shift) % bits);
                next++;
                untaken++;
            }
        }
        return calls;
    }

    private int tellTree(int levels) {
        if (random.nextInt(60) == 0) return tellOne(pick(24));
        if (levels == 0 || random.nextInt(5) == 0) return tellOne(20 + random.nextInt(2));
        int calls = tellOne(random.nextInt(mostBits));
        calls += tellTree(levels - 1);
        return calls + tellTree(levels - 1);
    }

    /** THE TREE told again, with a slip now and then, so that check() has trees that are right. */
    private int tellTheTree() {
        int p = random.nextInt(8);
        int best = random.nextInt(2);
        int nodes = plain.tree(p, best);
        same("tree(" + p + ", " + best + ")", bench.tree(p, best), nodes);
        int calls = 1;
        for (int k = 0; k < nodes && k < 100; k++) {
            int sign = plain.node(k, 0);
            same("node(" + k + ", 0)", bench.node(k, 0), sign);
            calls += 1 + tellOne(sign == 22 || random.nextInt(80) == 0 ? 20 : sign);
        }
        same("check(" + p + ")", bench.check(p), plain.check(p));
        return calls;
    }

    private int single(int call) {
        int p = place();
        int q = place();
        int small = pick(5);
        int what = pick(3);
        int side = pick(3);
        int x = pick(1 << mostBits);
        switch (call) {
            case 0 -> {
                int sort = pick(4);
                int n = pick(20);
                same("sheet(" + q + ", " + sort + ", " + n + ")", bench.sheet(q, sort, n), plain.sheet(q, sort, n));
            }
            case 1 -> same("lose(" + small + ")", bench.lose(small), plain.lose(small));
            case 2 -> {
                long v = random.nextLong() >> random.nextInt(64);
                same("write(" + small + ", " + x + ", " + v + ")", bench.write(small, x, v), plain.write(small, x, v));
            }
            case 3 -> {
                int sort = pick(4);
                same("look(" + small + ", " + sort + ", " + x + ")", bench.look(small, sort, x), plain.look(small, sort, x));
            }
            case 4 -> {
                int t = random.nextBoolean() ? small : pick(6);
                int to = pick(10);
                int n = pick(10);
                same("copy(" + small + ", " + what + ", " + t + ", " + to + ", " + n + ")",
                        bench.copy(small, what, t, to, n), plain.copy(small, what, t, to, n));
            }
            case 5 -> {
                int bits = 1 + pick(mostBits);
                if (bits <= mostBits || bits > 8) {
                    same("task(" + p + ", " + bits + ", " + small + ")", bench.task(p, bits, small), plain.task(p, bits, small));
                }
            }
            case 6 -> {
                same("kind(" + p + ", " + what + ")", bench.kind(p, what), plain.kind(p, what));
                same("shown(0)", bench.shown(0), plain.shown(0));
                same("shown(1)", bench.shown(1), plain.shown(1));
            }
            case 7 -> same("shown(" + what + ")", bench.shown(what), plain.shown(what));
            case 8 -> same("say(" + p + ", " + x + ")", bench.say(p, x), plain.say(p, x));
            case 9 -> same("set(" + p + ", " + x + ", " + what + ")", bench.set(p, x, what), plain.set(p, x, what));
            case 10 -> same("of(" + p + ", " + small + ")", bench.of(p, small), plain.of(p, small));
            case 11 -> {
                if (random.nextInt(5) == 0) same("clear(" + p + ")", bench.clear(p), plain.clear(p));
            }
            case 12 -> same("move(" + p + ", " + q + ")", bench.move(p, q), plain.move(p, q));
            case 13 -> tellOne(random.nextInt(4) == 0 ? x : 0);
            case 14 -> same("put(" + p + ", " + q + ")", bench.put(p, q), plain.put(p, q));
            case 15 -> same("read(" + p + ")", bench.read(p), plain.read(p));
            case 16 -> {
                int a = pick(4);
                same("made(" + p + ", " + q + ", " + small + ", " + a + ")", bench.made(p, q, small, a), plain.made(p, q, small, a));
            }
            case 17 -> same("same(" + p + ", " + q + ")", bench.same(p, q), plain.same(p, q));
            case 18 -> same("depth(" + p + ")", bench.depth(p), plain.depth(p));
            case 19 -> same("sum(" + p + ")", bench.sum(p), plain.sum(p));
            case 20 -> {
                int best = pick(2);
                same("tree(" + p + ", " + best + ")", bench.tree(p, best), plain.tree(p, best));
            }
            case 21 -> {
                int k = pick(20);
                int part = pick(4);
                same("node(" + k + ", " + part + ")", bench.node(k, part), plain.node(k, part));
            }
            case 22 -> same("run(" + x + ")", bench.run(x), plain.run(x));
            case 23 -> same("check(" + p + ")", bench.check(p), plain.check(p));
            default -> settling(call, p, what, side, x);
        }
        return 1;
    }

    private void settling(int call, int p, int what, int side, int x) {
        int bit = pick(mostBits);
        switch (call) {
            case 24 -> same("at(" + p + ", " + what + ", " + x + ")", bench.at(p, what, x), plain.at(p, what, x));
            case 25 -> same("most(" + p + ", " + what + ", " + side + ")", bench.most(p, what, side), plain.most(p, what, side));
            case 26 -> same("where(" + p + ", " + what + ", " + side + ")", bench.where(p, what, side), plain.where(p, what, side));
            case 27 -> same("poly(" + p + ", " + x + ")", bench.poly(p, x), plain.poly(p, x));
            case 28 -> same("degree(" + p + ")", bench.degree(p), plain.degree(p));
            case 29 -> same("sign(" + p + ", " + x + ")", bench.sign(p, x), plain.sign(p, x));
            case 30 -> same("energy(" + p + ", " + bit + ")", bench.energy(p, bit), plain.energy(p, bit));
            case 31 -> same("pull(" + p + ", " + bit + ")", bench.pull(p, bit), plain.pull(p, bit));
            case 32 -> {
                same("form(" + p + ")", bench.form(p), plain.form(p));
                for (int k = 0; k <= plain.count(3); k++) {
                    same("cube(" + k + ")", bench.cube(k), plain.cube(k));
                }
            }
            case 33 -> same("cube(" + bit + ")", bench.cube(bit), plain.cube(bit));
            case 34 -> same("letters(" + p + ")", bench.letters(p), plain.letters(p));
            case 35 -> same("game(" + p + ")", bench.game(p), plain.game(p));
            case 36, 37 -> same("ask(" + bit + ")", bench.ask(bit), plain.ask(bit));
            case 38 -> {
                if (random.nextInt(4) == 0) same("keep()", bench.keep(), plain.keep());
            }
            case 39 -> {
                if (random.nextInt(3) == 0) same("back()", bench.back(), plain.back());
            }
            default -> {
                for (int k = -1; k <= 5; k++) {
                    same("count(" + k + ")", bench.count(k), plain.count(k));
                }
            }
        }
    }
}
