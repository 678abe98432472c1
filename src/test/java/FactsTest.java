import java.util.Random;

/**
 * Facts about such tasks that are known from elsewhere and follow from the document's definitions. The plain telling
 * under support was written by the reader who wrote the class, and would share a misreading; these have another source.
 */
public final class FactsTest extends Laying {
    private static final Due DUE = new Due();
    private static final Random RANDOM = new Random(20261117);
    private static final int TASKS = 400;

    public static void main(String[] args) {
        for (int k = 0; k < TASKS; k++) {
            String says = anyTask(1 + k % 6);
            measuresInOrder(says);
            signsAndPulls(says);
            bothTrees(says);
            gameInAnyOrder(says);
            turnedTasks(says);
            risingTask(risen(says));
            sumOfProducts(anyTask(1 + k % 4));
            lettersBound(anyTask(1 + k % 3));
            formulaOnce(1 + k % 8);
            putTogether(1 + k % 4);
        }
        for (int bits = 1; bits <= 4; bits++) {
            kindsCounted(bits);
        }
        sixBitsOfDegreeThree();
        sortedFour();
        chosenByAddress();
        pairsInRows();
        DUE.end();
    }

    private static void due(String call, long got, long want) {
        DUE.due(call, got, want);
    }

    private static void dueHolds(String fact, boolean holds) {
        DUE.due(fact, holds ? 1 : 0, 1);
    }

    /** Of many, half or few yes, as tasks with half of them are nearly all alike. */
    private static String anyTask(int bits) {
        int yesOfTen = 1 + RANDOM.nextInt(9);
        StringBuilder says = new StringBuilder();
        for (int x = 0; x < 1 << bits; x++) {
            says.append(RANDOM.nextInt(10) < yesOfTen ? 1 : 0);
        }
        return says.toString();
    }

    private static int bitsOf(String says) {
        return Integer.numberOfTrailingZeros(says.length());
    }

    private static void measuresInOrder(String says) {
        QuestionBench b = bench(says);
        int depth = b.depth(0);
        for (int x = 0; x < says.length(); x++) {
            int sensitive = b.at(0, 0, x);
            int blocks = b.at(0, 1, x);
            int proof = b.at(0, 2, x);
            dueHolds("sensitive <= blocks <= proof <= depth at " + x + " of " + says,
                sensitive <= blocks && blocks <= proof && proof <= depth);
        }
        int sensitive = b.most(0, 0, 2);
        int degree = b.degree(0);
        dueHolds("degree <= depth of " + says, degree <= depth);
        dueHolds("degree <= sensitive squared of " + says, degree <= sensitive * sensitive);
        dueHolds("depth <= proofs of no times those of yes of " + says, depth <= b.most(0, 2, 0) * b.most(0, 2, 1));
        dueHolds("proof <= sensitive times blocks of " + says, b.most(0, 2, 2) <= sensitive * b.most(0, 1, 2));
        dueHolds("blocks <= degree squared of " + says, b.most(0, 1, 2) <= degree * degree);
    }

    private static void signsAndPulls(String says) {
        QuestionBench b = bench(says);
        int bits = bitsOf(says);
        int squares = 0;
        int weighed = 0;
        int degree = 0;
        for (int many = 0; many <= bits; many++) {
            int energy = b.energy(0, many);
            squares += energy;
            weighed += many * energy;
            degree = energy == 0 ? degree : many;
        }
        due("the squares of all signs of " + says, squares, 1L << 2 * bits);
        due("the greatest set with a sign of " + says, b.degree(0), degree);
        int pulls = 0;
        for (int i = 0; i < bits; i++) {
            pulls += b.pull(0, i);
        }
        due("pulls by signs of " + says, (long) pulls << bits, weighed);
        int sensitive = 0;
        for (int x = 0; x < says.length(); x++) {
            sensitive += b.at(0, 0, x);
        }
        due("pulls by what is sensitive of " + says, pulls, sensitive);
        dueHolds("a look at each sensitive bit, in the mean, of " + says, pulls <= b.sum(0));
    }

    private static void bothTrees(String says) {
        QuestionBench b = bench(says);
        int depth = b.depth(0);
        int sum = b.sum(0);
        for (int best = 0; best < 2; best++) {
            b.tree(0, best);
            int deepest = 0;
            int looks = 0;
            for (int x = 0; x < says.length(); x++) {
                int run = b.run(x);
                due("the tree by " + best + " says of " + x, run % 10, says.charAt(x) - '0');
                deepest = Math.max(deepest, run / 10);
                looks += run / 10;
            }
            dueHolds("no tree is flatter than the depth of " + says, best == 0 ? deepest == depth : deepest >= depth);
            dueHolds("no tree has less looks than the sum of " + says, best == 1 ? looks == sum : looks >= sum);
            due("one leaf more than looks in the tree of " + says, b.count(2) % 2, 1);
        }
    }

    private static void gameInAnyOrder(String says) {
        QuestionBench b = bench(says);
        int depth = b.depth(0);
        due("the game's depth of " + says, b.game(0), depth);
        int bits = bitsOf(says);
        int first = RANDOM.nextInt(bits);
        int asked = 0;
        int left = depth;
        for (int k = 0; k < bits && left > 0; k++) {
            int after = b.ask((first + k) % bits) / 10;
            dueHolds("a question takes one look away at most, of " + says, after == left || after == left - 1);
            left = after;
            asked++;
        }
        due("what is left in the end of " + says, left, 0);
        dueHolds("no order of questions is better than the depth of " + says, asked >= depth);
    }

    private static void turnedTasks(String says) {
        int bits = bitsOf(says);
        for (int how : new int[] {0, 1, 4}) {
            QuestionBench b = bench(says);
            int a = RANDOM.nextInt(bits);
            b.made(0, 1, how, a);
            String task = " of " + says + " made by " + how;
            due("depth" + task, b.depth(1), b.depth(0));
            due("sum" + task, b.sum(1), b.sum(0));
            due("degree" + task, b.degree(1), b.degree(0));
            due("letters" + task, b.letters(1), b.letters(0));
            int many = RANDOM.nextInt(bits + 1);
            due("energy" + task, b.energy(1, many), b.energy(0, many));
            for (int what = 0; what < 3; what++) {
                int side = RANDOM.nextInt(3);
                int other = how == 4 || side == 2 ? side : 1 - side;
                due("most " + what + task, b.most(1, what, other), b.most(0, what, side));
            }
            b.made(1, 2, how, a);
            due("twice" + task, b.same(0, 2), 1);
        }
    }

    /** A RISING task: yes wherever an INPUT below says yes that has two 1s or more, as else nearly all would say yes. */
    private static String risen(String says) {
        StringBuilder risen = new StringBuilder();
        for (int x = 0; x < says.length(); x++) {
            boolean yes = false;
            for (int y = 0; y <= x; y++) {
                yes |= (y & ~x) == 0 && Integer.bitCount(y) > 1 && says.charAt(y) == '1';
            }
            risen.append(yes ? 1 : 0);
        }
        return risen.toString();
    }

    private static void risingTask(String says) {
        QuestionBench b = bench(says);
        due("rising " + says, b.kind(0, 1), 0);
        for (int i = 0; i < bitsOf(says); i++) {
            due("a single bit's sign is its pull in " + says, b.sign(0, 1 << i), b.pull(0, i));
        }
        for (int side = 0; side < 3; side++) {
            due("most blocks are most sensitive bits of " + says, b.most(0, 1, side), b.most(0, 0, side));
            due("the greatest proofs are, too, of " + says, b.most(0, 2, side), b.most(0, 0, side));
        }
        if (says.length() <= 16) {
            due("a cube for each least yes of " + says, b.form(0), leastYes(says));
        }
    }

    private static int leastYes(String says) {
        int many = 0;
        for (int x = 0; x < says.length(); x++) {
            boolean least = says.charAt(x) == '1';
            for (int y = 0; y < x; y++) {
                least &= (y & ~x) != 0 || says.charAt(y) == '0';
            }
            many += least ? 1 : 0;
        }
        return many;
    }

    private static void sumOfProducts(String says) {
        QuestionBench b = bench(says);
        int cubes = b.form(0);
        dueHolds("half of all inputs are cubes enough for " + says, 2 * cubes <= says.length());
        for (int x = 0; x < says.length(); x++) {
            boolean said = false;
            for (int k = 0; k < cubes; k++) {
                said |= isIn(x, b.cube(k), bitsOf(says));
            }
            due("the sum of products says of " + x + " for " + says, said ? 1 : 0, says.charAt(x) - '0');
        }
    }

    private static boolean isIn(int x, int number, int bits) {
        boolean in = true;
        int rest = number;
        for (int i = 0; i < bits; i++) {
            in &= rest % 3 == 2 || rest % 3 == (x >> i & 1);
            rest /= 3;
        }
        return in;
    }

    /** Khrapchenko's bound, and that each bit that matters stands in a formula. */
    private static void lettersBound(String says) {
        QuestionBench b = bench(says);
        int letters = b.letters(0);
        int edges = 0;
        int matters = 0;
        for (int i = 0; i < bitsOf(says); i++) {
            edges += b.pull(0, i) / 2;
            matters += b.pull(0, i) > 0 ? 1 : 0;
        }
        int yes = b.of(0, 2);
        dueHolds("letters by edges of " + says, letters * yes * (says.length() - yes) >= edges * edges);
        dueHolds("a letter for each bit of " + says, letters >= matters);
    }

    /** A task of a formula in which each bit stands once needs a look at each. */
    private static void formulaOnce(int bits) {
        QuestionBench b = new QuestionBench();
        int untaken = 0;
        int shift = RANDOM.nextInt(bits);
        for (int told = 0; told < bits || untaken > 1; ) {
            if (untaken > 1 && (told == bits || RANDOM.nextBoolean())) {
                b.tell(10 + RANDOM.nextInt(2));
                untaken--;
            } else {
                b.tell((told + shift) % bits);
                untaken++;
                told++;
            }
            if (RANDOM.nextInt(3) == 0) b.tell(12);
        }
        due("read", b.read(0), bits);
        due("depth of a formula that reads once", b.depth(0), bits);
        due("degree of it", b.degree(0), bits);
        dueHolds("proofs of it", b.most(0, 2, 0) * b.most(0, 2, 1) >= bits);
        if (bits <= 3) due("letters of it", b.letters(0), bits);
    }

    /** With one task inside at each bit, depths and degrees are multiplied. */
    private static void putTogether(int outer) {
        QuestionBench b = new QuestionBench();
        int inner = 1 + RANDOM.nextInt(8 / outer);
        String outside = anyTask(outer);
        String inside = anyTask(inner);
        lay(b, 0, outside);
        lay(b, 1, inside);
        for (int j = 0; j < outer; j++) {
            b.tell(1);
        }
        due("put", b.put(2, 0), outer * inner);
        String task = " of " + inside + " in " + outside;
        due("depth" + task, b.depth(2), b.depth(0) * b.depth(1));
        due("degree" + task, b.degree(2), b.degree(0) * b.degree(1));
        dueHolds("proof" + task, b.most(2, 2, 2) <= b.most(0, 2, 2) * b.most(1, 2, 2));
        dueHolds("sensitive" + task, b.most(2, 0, 2) <= b.most(0, 0, 2) * b.most(1, 0, 2));
    }

    /** Dedekind's numbers, and a yes or no for each number of 1s. */
    private static void kindsCounted(int bits) {
        int[] dedekind = {0, 3, 6, 20, 168};
        int rising = 0;
        int level = 0;
        int last = 0;
        QuestionBench b = null;
        for (int k = 0; k < 1 << (1 << bits); k++) {
            // one INPUT changes from a task to the next
            int says = k ^ (k >> 1);
            if (k % 128 == 0) {
                b = new QuestionBench();
                b.task(0, bits, 0);
                last = 0;
            }
            for (int x = 0; x < 1 << bits; x++) {
                if (((says ^ last) >> x & 1) == 1) b.set(0, x, says >> x & 1);
            }
            rising += b.kind(0, 1) >= 0 ? 1 : 0;
            level += b.kind(0, 2) >= 0 ? 1 : 0;
            last = says;
        }
        due("rising tasks of " + bits + " bits", rising, dedekind[bits]);
        due("level tasks of " + bits + " bits", level, 2L << bits);
    }

    /** Kushilevitz's task of 6 bits: all six are looked at though its degree is 3. */
    private static void sixBitsOfDegreeThree() {
        int[][] threes = {{1, 3, 4}, {1, 2, 5}, {1, 4, 5}, {2, 3, 4}, {2, 3, 5}, {1, 2, 6}, {1, 3, 6}, {2, 4, 6}, {3, 5, 6}, {4, 5, 6}};
        int[] numbers = new int[64];
        for (int s = 1; s < 64; s++) {
            numbers[s] = Integer.bitCount(s) == 1 ? 1 : Integer.bitCount(s) == 2 ? -1 : 0;
        }
        for (int[] three : threes) {
            numbers[1 << three[0] - 1 | 1 << three[1] - 1 | 1 << three[2] - 1] = 1;
        }
        StringBuilder says = new StringBuilder();
        for (int x = 0; x < 64; x++) {
            int value = 0;
            for (int s = 0; s < 64; s++) {
                value += (s & ~x) == 0 ? numbers[s] : 0;
            }
            dueHolds("the sum says 0 or 1 at " + x, value == 0 || value == 1);
            says.append(value);
        }
        QuestionBench b = bench(says.toString());
        for (int s = 0; s < 64; s++) {
            due("poly(0, " + s + ")", b.poly(0, s), numbers[s]);
        }
        due("its degree", b.degree(0), 3);
        due("its depth", b.depth(0), 6);
        due("all bits are sensitive at 0", b.at(0, 0, 0), 6);
    }

    /** Ambainis's task: yes if the four bits rise or fall; then with an "either, not both" inside at each bit. */
    private static void sortedFour() {
        StringBuilder says = new StringBuilder();
        for (int x = 0; x < 16; x++) {
            boolean rises = (x & 1) <= (x >> 1 & 1) && (x >> 1 & 1) <= (x >> 2 & 1) && (x >> 2 & 1) <= (x >> 3);
            boolean falls = (x & 1) >= (x >> 1 & 1) && (x >> 1 & 1) >= (x >> 2 & 1) && (x >> 2 & 1) >= (x >> 3);
            says.append(rises || falls ? 1 : 0);
        }
        QuestionBench b = bench(says.toString());
        due("its degree", b.degree(0), 2);
        due("its depth", b.depth(0), 3);
        lay(b, 1, "0110");
        tell(b, 1, 1, 1, 1);
        due("put", b.put(2, 0), 8);
        due("degree of the put one", b.degree(2), 4);
        due("depth of the put one", b.depth(2), 6);
    }

    /** Two bits choose which of four others is said. */
    private static void chosenByAddress() {
        StringBuilder says = new StringBuilder();
        for (int x = 0; x < 64; x++) {
            says.append(x >> 2 + (x & 3) & 1);
        }
        QuestionBench b = bench(says.toString());
        due("depth by address", b.depth(0), 3);
        due("sum by address", b.sum(0), 3 * 64);
        due("degree by address", b.degree(0), 3);
        due("nodes by address", b.tree(0, 0), 15);
        due("proofs by address", b.most(0, 2, 0) * 10 + b.most(0, 2, 1), 33);
    }

    /** Rubinstein's kind of task: two rows of four bits, yes if a row has just a pair of 1s side by side from 0 or 2 on. */
    private static void pairsInRows() {
        StringBuilder says = new StringBuilder();
        for (int x = 0; x < 256; x++) {
            boolean yes = isPair(x & 15) || isPair(x >> 4);
            says.append(yes ? 1 : 0);
        }
        QuestionBench b = bench(says.toString());
        due("sensitive without any 1", b.at(0, 0, 0), 0);
        due("blocks without any 1", b.at(0, 1, 0), 4);
        due("most sensitive of no", b.most(0, 0, 0), 2);
        due("most blocks of no", b.most(0, 1, 0), 4);
        due("most sensitive of yes", b.most(0, 0, 1), 4);
    }

    private static boolean isPair(int row) {
        return row == 3 || row == 12;
    }
}
