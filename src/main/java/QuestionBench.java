import java.util.Arrays;

/**
 * A bench for tasks that say yes or no to rows of bits, and for how few questions settle them.
 * The words in capitals and the promises by number are those of the document.
 */
public final class QuestionBench {
    private static final int FINE = 0;
    private static final int BAD = -2;
    private static final int NOT_SO = -3;
    private static final int OPEN = -4;
    private static final int BIG = -5;
    private static final int NOTHING = -10;
    private static final int PLACE = -11;
    private static final int SORT = -12;
    private static final int SIZE = -13;

    private static final int TABLE = 0;
    private static final int RISING = 1;
    private static final int LEVEL = 2;
    private static final int PUT = 3;
    private static final int READ = 4;

    private static final int PLACES = 8;
    private static final int SHEETS = 6;
    private static final int MOST_BITS = 8;
    private static final int MOST_INPUTS = 256;
    private static final int MOST_CUBES = 6561;
    private static final int MOST_NODES = 511;
    private static final int MOST_WAITING = 100;
    private static final int FORM_BITS = 4;
    private static final int FORM_INPUTS = 16;
    private static final int FORM_CUBES = 81;
    private static final int LETTER_BITS = 3;

    private static final int SAYS_OPEN = 2;
    private static final int SAYS = 20;
    private static final int AND = 10;
    private static final int OR = 11;
    private static final int NOT = 12;
    private static final int NONE = -1;
    /** Above every DEPTH and SUM. */
    private static final int MORE_THAN_ANY = 1000000;

    private final Sheet[] sheets;
    private final Task[] places;
    private final Task[] kept;
    private final int[] waiting;
    private final Cubes cubes;
    private final LookTree theTree;
    private final LookTree toldTree;
    private final Changes changes;
    private final Numbers numbers;
    private final Form theForm;
    private final Letters fewest;
    private final Game theGame;
    private boolean isKept;
    private int waits;
    private int shownPair;
    private int met;

    public QuestionBench() {
        sheets = new Sheet[SHEETS];
        places = new Task[PLACES];
        kept = new Task[PLACES];
        waiting = new int[MOST_WAITING];
        cubes = new Cubes();
        theTree = new LookTree(MOST_NODES);
        toldTree = new LookTree(MOST_WAITING);
        changes = new Changes();
        numbers = new Numbers();
        theForm = new Form();
        fewest = new Letters();
        theGame = new Game();
        isKept = false;
        waits = 0;
        shownPair = NONE;
        met = 0;
    }

    // ---- sheets

    public int sheet(int s, int sort, int n) {
        if (!isSheet(s) || !isSort(sort) || n > MOST_INPUTS) {
            return BAD;
        }
        if (n < 0) {
            return counted(SIZE);
        }
        sheets[s] = new Sheet(sort, n);
        return n;
    }

    public int lose(int s) {
        if (!isSheet(s)) {
            return BAD;
        }
        int was = sheets[s] == null ? 0 : 1;
        sheets[s] = null;
        return was;
    }

    public int write(int s, int i, long v) {
        if (!isSheet(s)) {
            return BAD;
        }
        Sheet sheet = sheets[s];
        if (sheet == null) {
            return counted(NOTHING);
        }
        if (i < 0 || i >= sheet.row.length) {
            return counted(PLACE);
        }
        sheet.row[i] = narrowed(sheet.sort, v);
        return sheet.row.length;
    }

    public int look(int s, int sort, int i) {
        if (!isSheet(s) || !isSort(sort)) {
            return BAD;
        }
        Sheet sheet = sheets[s];
        if (sheet == null) {
            return counted(NOTHING);
        }
        if (sheet.sort != sort) {
            return counted(SORT);
        }
        if (i < 0 || i >= sheet.row.length) {
            return counted(PLACE);
        }
        long v = sheet.row[i];
        return v > 0 ? 1 : v == 0 ? 2 : 3;
    }

    public int copy(int s, int from, int t, int to, int n) {
        if (!isSheet(s) || !isSheet(t)) {
            return BAD;
        }
        Sheet source = sheets[s];
        Sheet target = sheets[t];
        if (source == null || target == null) {
            return counted(NOTHING);
        }
        if (source.sort != target.sort) {
            return counted(SORT);
        }
        if (!hasRoom(source, from, n) || !hasRoom(target, to, n)) {
            return counted(PLACE);
        }
        System.arraycopy(source.row, from, target.row, to, n);
        return n;
    }

    private static boolean isSheet(int s) {
        return s >= 0 && s < SHEETS;
    }

    private static boolean isSort(int sort) {
        return sort >= 0 && sort <= 3;
    }

    /** Asked without from + n, which could wrap around. */
    private static boolean hasRoom(Sheet sheet, int from, int n) {
        return from >= 0 && n >= 0 && n <= sheet.row.length && from <= sheet.row.length - n;
    }

    private static long narrowed(int sort, long v) {
        switch (sort) {
            case 0:
                return (byte) v;
            case 1:
                return (short) v;
            case 2:
                return (int) v;
            default:
                return v;
        }
    }

    // ---- tasks

    public int task(int p, int bits, int s) {
        if (!isPlace(p) || !isSheet(s) || bits < 1 || bits > MOST_BITS) {
            return BAD;
        }
        byte[] says = new byte[1 << bits];
        Sheet sheet = sheets[s];
        if (sheet != null) {
            for (int x = 0; x < says.length; x++) {
                says[x] = saidBy(sheet, x);
            }
        }
        Task task = plainTask(TABLE, bits, says);
        places[p] = task;
        return task.howMany(SAYS_OPEN);
    }

    private static byte saidBy(Sheet sheet, int x) {
        if (x >= sheet.row.length || sheet.row[x] < 0) {
            return SAYS_OPEN;
        }
        return (byte) (sheet.row[x] > 0 ? 1 : 0);
    }

    public int kind(int p, int kind) {
        int wrong = kind < TABLE || kind > LEVEL ? BAD : findingOfTask(p);
        if (wrong != FINE) {
            return wrong;
        }
        Task task = places[p];
        int pair = pairAgainst(task, kind);
        if (pair != NONE) {
            shownPair = pair;
            return NOT_SO;
        }
        places[p] = plainTask(kind, task.bits, task.says);
        return task.kind;
    }

    /** The two INPUTS of promise 9 as first * 256 + second, NONE if the task is of the KIND. */
    private static int pairAgainst(Task task, int kind) {
        if (kind == TABLE) {
            return NONE;
        }
        int open = task.least(SAYS_OPEN);
        if (open != NONE) {
            return open * MOST_INPUTS + open;
        }
        for (int x = 0; x < task.says.length; x++) {
            int y = task.says[x] != 1 ? NONE : kind == RISING ? fallingFrom(task, x) : unlikeOnLevel(task, x);
            if (y != NONE) {
                return x * MOST_INPUTS + y;
            }
        }
        return NONE;
    }

    private static int fallingFrom(Task task, int x) {
        for (int i = 0; i < task.bits; i++) {
            int y = x | (1 << i);
            if (y != x && task.says[y] == 0) {
                return y;
            }
        }
        return NONE;
    }

    private static int unlikeOnLevel(Task task, int x) {
        for (int y = 0; y < task.says.length; y++) {
            if (task.says[y] == 0 && Integer.bitCount(y) == Integer.bitCount(x)) {
                return y;
            }
        }
        return NONE;
    }

    public int shown(int i) {
        if (i < 0 || i > 1) {
            return BAD;
        }
        if (shownPair == NONE) {
            return NONE;
        }
        return i == 0 ? shownPair / MOST_INPUTS : shownPair % MOST_INPUTS;
    }

    public int say(int p, int x) {
        int wrong = findingOfTask(p);
        if (wrong != FINE) {
            return wrong;
        }
        Task task = places[p];
        return task.hasInput(x) ? task.says[x] : counted(PLACE);
    }

    public int set(int p, int x, int v) {
        int wrong = v < 0 || v > SAYS_OPEN ? BAD : findingOfTask(p);
        if (wrong != FINE) {
            return wrong;
        }
        Task task = places[p];
        if (!task.hasInput(x)) {
            return counted(PLACE);
        }
        byte[] says = task.says.clone();
        says[x] = (byte) v;
        places[p] = plainTask(TABLE, task.bits, says);
        return task.says[x];
    }

    public int of(int p, int what) {
        int wrong = what < 0 || what > 4 ? BAD : findingOfTask(p);
        if (wrong != FINE) {
            return wrong;
        }
        Task task = places[p];
        switch (what) {
            case 0:
                return task.kind;
            case 1:
                return task.bits;
            case 2:
                return task.howMany(1);
            case 3:
                return task.howMany(SAYS_OPEN);
            default:
                return task.worth;
        }
    }

    public int clear(int p) {
        if (!isPlace(p)) {
            return BAD;
        }
        int was = places[p] == null ? 0 : 1;
        places[p] = null;
        return was;
    }

    public int move(int p, int q) {
        int wrong = !isPlace(q) ? BAD : findingOfTask(p);
        if (wrong != FINE) {
            return wrong;
        }
        places[q] = places[p];
        return places[p].bits;
    }

    public int tell(int v) {
        if (waits >= MOST_WAITING) {
            return BAD;
        }
        waiting[waits] = v;
        waits++;
        return waits;
    }

    public int put(int p, int q) {
        int wrong = !isPlace(p) ? BAD : findingOfTask(q);
        if (wrong == FINE) {
            wrong = findingOfInner(places[q]);
        }
        if (wrong == FINE) {
            places[p] = putTogether(places[q]);
        }
        waits = 0;
        return wrong != FINE ? wrong : places[p].bits;
    }

    private int findingOfInner(Task outer) {
        if (waits != outer.bits) {
            return BAD;
        }
        for (int j = 0; j < waits; j++) {
            if (!isPlace(waiting[j])) {
                return BAD;
            }
        }
        int bits = 0;
        boolean told = outer.isTold();
        for (int j = 0; j < waits; j++) {
            Task inner = places[waiting[j]];
            if (inner == null) {
                return counted(NOTHING);
            }
            told = told && inner.isTold();
            bits += inner.bits;
        }
        if (!told) {
            return OPEN;
        }
        return bits > MOST_BITS ? BIG : FINE;
    }

    private Task putTogether(Task outer) {
        int bits = 0;
        int worth = 0;
        for (int j = 0; j < waits; j++) {
            bits += places[waiting[j]].bits;
            worth += places[waiting[j]].worth;
        }
        byte[] says = new byte[1 << bits];
        for (int x = 0; x < says.length; x++) {
            says[x] = outer.says[saidByInner(x)];
        }
        return new Task(PUT, bits, worth, says);
    }

    /** The INPUT of the OUTER task that the INNER ones make of x. */
    private int saidByInner(int x) {
        int rest = x;
        int made = 0;
        for (int j = 0; j < waits; j++) {
            Task inner = places[waiting[j]];
            made |= inner.says[rest & (inner.says.length - 1)] << j;
            rest >>= inner.bits;
        }
        return made;
    }

    public int read(int p) {
        int bits = isPlace(p) ? bitsOfFormula() : BAD;
        if (bits != BAD) {
            byte[] says = new byte[1 << bits];
            for (int x = 0; x < says.length; x++) {
                says[x] = (byte) saidByFormula(x);
            }
            places[p] = new Task(READ, bits, 100 + bits, says);
        }
        waits = 0;
        return bits;
    }

    /** How many bits the FORMULA that waits has, BAD if it is none. */
    private int bitsOfFormula() {
        int used = 0;
        int untaken = 0;
        for (int k = 0; k < waits; k++) {
            int v = waiting[k];
            if (v >= 0 && v < MOST_BITS && (used >> v & 1) == 0) {
                used |= 1 << v;
                untaken++;
            } else if ((v == AND || v == OR) && untaken >= 2) {
                untaken--;
            } else if (v != NOT || untaken < 1) {
                return BAD;
            }
        }
        // used + 1 is a power of two just when the bits are 0 .. n - 1
        return untaken == 1 && (used & (used + 1)) == 0 ? Integer.bitCount(used) : BAD;
    }

    /** What is told and not taken yet are the low bits of one int: each bit stands once, so eight are enough. */
    private int saidByFormula(int x) {
        int untaken = 0;
        for (int k = 0; k < waits; k++) {
            int v = waiting[k];
            if (v == NOT) {
                untaken ^= 1;
            } else if (v == AND) {
                untaken = (untaken >> 1) & (untaken | ~1);
            } else if (v == OR) {
                untaken = (untaken >> 1) | (untaken & 1);
            } else {
                untaken = (untaken << 1) | (x >> v & 1);
            }
        }
        return untaken & 1;
    }

    public int made(int p, int q, int how, int a) {
        int wrong = !isPlace(q) || how < 0 || how > 4 ? BAD : findingOfTask(p);
        if (wrong != FINE) {
            return wrong;
        }
        Task task = places[p];
        if (how >= 2 && (a < 0 || a >= task.bits)) {
            return BAD;
        }
        boolean lessens = how == 2 || how == 3;
        if (lessens && task.bits == 1) {
            return BIG;
        }
        int bits = lessens ? task.bits - 1 : task.bits;
        byte[] says = new byte[1 << bits];
        for (int x = 0; x < says.length; x++) {
            int said = task.says[madeFrom(task, how, a, x)];
            boolean turned = how < 2 && said != SAYS_OPEN;
            says[x] = (byte) (turned ? 1 - said : said);
        }
        places[q] = plainTask(TABLE, bits, says);
        return bits;
    }

    /** The INPUT of the task that INPUT x of the made one asks. */
    private static int madeFrom(Task task, int how, int a, int x) {
        switch (how) {
            case 1:
                return task.says.length - 1 - x;
            case 2:
                return withBit(x, a, 0);
            case 3:
                return withBit(x, a, 1);
            case 4:
                return x ^ (1 << a);
            default:
                return x;
        }
    }

    private static int withBit(int x, int a, int value) {
        int below = x & ((1 << a) - 1);
        return ((x - below) << 1) | (value << a) | below;
    }

    public int same(int p, int q) {
        int wrong = !isPlace(q) ? BAD : findingOfTask(p);
        if (wrong == FINE) {
            wrong = findingOfTask(q);
        }
        if (wrong != FINE) {
            return wrong;
        }
        byte[] one = places[p].says;
        byte[] other = places[q].says;
        boolean like = one.length == other.length;
        for (int x = 0; like && x < one.length; x++) {
            like = one[x] == other[x];
        }
        return like ? 1 : 0;
    }

    private static boolean isPlace(int p) {
        return p >= 0 && p < PLACES;
    }

    private static Task plainTask(int kind, int bits, byte[] says) {
        return new Task(kind, bits, kind == TABLE ? bits : bits + 10, says);
    }

    private int findingOfTask(int p) {
        if (!isPlace(p)) {
            return BAD;
        }
        return places[p] == null ? counted(NOTHING) : FINE;
    }

    private int findingOfTold(int p) {
        int wrong = findingOfTask(p);
        if (wrong != FINE) {
            return wrong;
        }
        return places[p].isTold() ? FINE : OPEN;
    }

    private int counted(int finding) {
        met++;
        return finding;
    }

    // ---- looks

    public int depth(int p) {
        return weightOf(p, false);
    }

    public int sum(int p) {
        return weightOf(p, true);
    }

    private int weightOf(int p, boolean sums) {
        int wrong = findingOfTask(p);
        if (wrong != FINE) {
            return wrong;
        }
        cubes.weigh(places[p], sums);
        return cubes.weightOfAll();
    }

    public int tree(int p, int best) {
        int wrong = best < 0 || best > 1 ? BAD : findingOfTask(p);
        if (wrong != FINE) {
            return wrong;
        }
        cubes.weigh(places[p], best == 1);
        theTree.growBy(cubes);
        return theTree.nodes;
    }

    public int node(int k, int what) {
        if (k < 0 || k >= theTree.nodes || what < 0 || what > 3) {
            return BAD;
        }
        switch (what) {
            case 0:
                return theTree.sign[k];
            case 1:
                return theTree.ahead[k];
            case 2:
                return theTree.isLook(k) ? theTree.branch(k, 0) : NONE;
            default:
                return theTree.isLook(k) ? theTree.branch(k, 1) : NONE;
        }
    }

    public int run(int x) {
        if (theTree.nodes == 0 || x < 0 || x >= MOST_INPUTS) {
            return BAD;
        }
        return theTree.walk(x);
    }

    public int check(int p) {
        int answer = findingOfTask(p);
        if (answer == FINE) {
            Task task = places[p];
            answer = toldTree.parse(waiting, waits, task.bits) ? leastMiss(task) + 1 : NOT_SO;
        }
        waits = 0;
        return answer;
    }

    /** The least INPUT that the told tree gets wrong, NONE without. */
    private int leastMiss(Task task) {
        for (int x = 0; x < task.says.length; x++) {
            if (task.says[x] != SAYS_OPEN && toldTree.walk(x) % 10 != task.says[x]) {
                return x;
            }
        }
        return NONE;
    }

    // ---- what settles

    public int at(int p, int what, int x) {
        int wrong = what < 0 || what > 2 ? BAD : findingOfTold(p);
        if (wrong != FINE) {
            return wrong;
        }
        Task task = places[p];
        return task.hasInput(x) ? changes.measure(task, what, x) : counted(PLACE);
    }

    public int most(int p, int what, int side) {
        int wrong = findingOfMost(p, what, side);
        if (wrong != FINE) {
            return wrong;
        }
        Task task = places[p];
        int x = changes.leastGreatest(task, what, side);
        return x == NONE ? 0 : changes.measure(task, what, x);
    }

    public int where(int p, int what, int side) {
        int wrong = findingOfMost(p, what, side);
        return wrong != FINE ? wrong : changes.leastGreatest(places[p], what, side);
    }

    private int findingOfMost(int p, int what, int side) {
        return what < 0 || what > 2 || side < 0 || side > 2 ? BAD : findingOfTold(p);
    }

    public int poly(int p, int set) {
        if (findingOfTold(p) != FINE || !places[p].hasInput(set)) {
            return 0;
        }
        numbers.loadPoly(places[p]);
        return numbers.row[set];
    }

    public int degree(int p) {
        int wrong = findingOfTold(p);
        if (wrong != FINE) {
            return wrong;
        }
        Task task = places[p];
        numbers.loadPoly(task);
        int most = 0;
        for (int s = 0; s < task.says.length; s++) {
            if (numbers.row[s] != 0) {
                most = Math.max(most, Integer.bitCount(s));
            }
        }
        return most;
    }

    public int sign(int p, int set) {
        if (findingOfTold(p) != FINE || !places[p].hasInput(set)) {
            return 0;
        }
        numbers.loadSigns(places[p]);
        return numbers.row[set];
    }

    public int energy(int p, int many) {
        int wrong = findingOfTold(p);
        if (wrong != FINE) {
            return wrong;
        }
        if (many < 0 || many > MOST_BITS) {
            return BAD;
        }
        Task task = places[p];
        numbers.loadSigns(task);
        int squares = 0;
        for (int s = 0; s < task.says.length; s++) {
            if (Integer.bitCount(s) == many) {
                squares += numbers.row[s] * numbers.row[s];
            }
        }
        return squares;
    }

    public int pull(int p, int bit) {
        int wrong = findingOfTold(p);
        if (wrong != FINE) {
            return wrong;
        }
        Task task = places[p];
        if (bit < 0 || bit >= task.bits) {
            return BAD;
        }
        int sensitive = 0;
        for (int x = 0; x < task.says.length; x++) {
            sensitive += task.says[x] != task.says[x ^ (1 << bit)] ? 1 : 0;
        }
        return sensitive;
    }

    // ---- forms

    public int form(int p) {
        int wrong = findingOfTask(p);
        if (wrong != FINE) {
            return wrong;
        }
        if (places[p].bits > FORM_BITS) {
            return BIG;
        }
        theForm.find(places[p]);
        return theForm.length;
    }

    public int cube(int k) {
        return k < 0 || k >= theForm.length ? BAD : theForm.chosen[k];
    }

    public int letters(int p) {
        int wrong = findingOfTold(p);
        if (wrong != FINE) {
            return wrong;
        }
        return places[p].bits > LETTER_BITS ? BIG : fewest.fewestFor(places[p]);
    }

    // ---- the game

    public int game(int p) {
        int wrong = findingOfTask(p);
        return wrong != FINE ? wrong : theGame.begin(places[p]);
    }

    public int ask(int bit) {
        return theGame.answer(bit);
    }

    // ---- all

    public int keep() {
        bring(places, kept);
        isKept = true;
        return howManyTasks();
    }

    public int back() {
        if (!isKept) {
            return counted(NOTHING);
        }
        bring(kept, places);
        return howManyTasks();
    }

    private static void bring(Task[] from, Task[] to) {
        for (int p = 0; p < PLACES; p++) {
            to[p] = from[p];
        }
    }

    public int count(int what) {
        switch (what) {
            case 0:
                return howManyTasks();
            case 1:
                return waits;
            case 2:
                return theTree.nodes;
            case 3:
                return theForm.length;
            case 4:
                return met;
            default:
                return BAD;
        }
    }

    private int howManyTasks() {
        int tasks = 0;
        for (int p = 0; p < PLACES; p++) {
            tasks += places[p] == null ? 0 : 1;
        }
        return tasks;
    }

    /** The SORT narrows what is written, so one kind of row is enough for all four. */
    private static final class Sheet {
        final int sort;
        final long[] row;

        Sheet(int sort, int n) {
            this.sort = sort;
            this.row = new long[n];
        }
    }

    /** Never changed once made: PLACES, what is kept and THE GAME can have the same one. */
    private static final class Task {
        final int kind;
        final int bits;
        final int worth;
        final byte[] says;

        Task(int kind, int bits, int worth, byte[] says) {
            this.kind = kind;
            this.bits = bits;
            this.worth = worth;
            this.says = says;
        }

        boolean hasInput(int x) {
            return x >= 0 && x < says.length;
        }

        int howMany(int v) {
            int many = 0;
            for (int x = 0; x < says.length; x++) {
                many += says[x] == v ? 1 : 0;
            }
            return many;
        }

        int least(int v) {
            for (int x = 0; x < says.length; x++) {
                if (says[x] == v) {
                    return x;
                }
            }
            return NONE;
        }

        boolean isTold() {
            return least(SAYS_OPEN) == NONE;
        }
    }

    /** DEPTH or SUM of all CUBES of a task, by their NUMBERS: a CUBE's halves have lesser ones than it has. */
    private static final class Cubes {
        private static final int HAS_NO = 1;
        private static final int HAS_YES = 2;

        final byte[] holds = new byte[MOST_CUBES];
        final int[] weight = new int[MOST_CUBES];
        private Task weighed;
        private boolean bySums;
        int all;

        void weigh(Task task, boolean sums) {
            if (weighed == task && bySums == sums) {
                return;
            }
            weighed = task;
            bySums = sums;
            all = powerOf(task.bits) - 1;
            for (int c = 0; c <= all; c++) {
                weighOne(c);
            }
        }

        private void weighOne(int c) {
            int rest = c;
            int power = 1;
            int free = 0;
            int input = 0;
            int least = MORE_THAN_ANY;
            for (int i = 0; i < weighed.bits; i++) {
                int digit = rest % 3;
                if (digit == 2) {
                    free++;
                    holds[c] = (byte) (holds[c - power] | holds[c - 2 * power]);
                    least = Math.min(least, weightOfHalves(c, power));
                } else {
                    input |= digit << i;
                }
                rest /= 3;
                power *= 3;
            }
            if (free == 0) {
                int said = weighed.says[input];
                holds[c] = (byte) (said == 0 ? HAS_NO : said == 1 ? HAS_YES : 0);
            }
            weight[c] = isSettled(c) ? 0 : least + ownWeight(free);
        }

        private int weightOfHalves(int c, int power) {
            int zero = weight[c - 2 * power];
            int one = weight[c - power];
            return bySums ? zero + one : Math.max(zero, one);
        }

        private int ownWeight(int free) {
            return bySums ? 1 << free : 1;
        }

        int weightOfAll() {
            return weight[all];
        }

        boolean isSettled(int c) {
            return holds[c] != (HAS_NO | HAS_YES);
        }

        int saysAll(int c) {
            return holds[c] == HAS_NO ? 0 : holds[c] == HAS_YES ? 1 : SAYS_OPEN;
        }

        /** The least bit by which the weight of a CUBE that is not SETTLED comes. */
        int bestBit(int c) {
            int rest = c;
            int power = 1;
            int best = NONE;
            int least = MORE_THAN_ANY;
            for (int i = 0; i < weighed.bits; i++) {
                if (rest % 3 == 2 && weightOfHalves(c, power) < least) {
                    best = i;
                    least = weightOfHalves(c, power);
                }
                rest /= 3;
                power *= 3;
            }
            return best;
        }

        static int powerOf(int bit) {
            int power = 1;
            for (int i = 0; i < bit; i++) {
                power *= 3;
            }
            return power;
        }
    }

    /** NODES in THE TREE's order, so the branch for 0 comes next and the one for 1 behind it. */
    private static final class LookTree {
        final int[] sign;
        final int[] ahead;
        private final int[] behind;
        int nodes;

        LookTree(int room) {
            sign = new int[room];
            ahead = new int[room];
            behind = new int[room];
        }

        void growBy(Cubes cubes) {
            nodes = 0;
            grow(cubes, cubes.all, 0);
        }

        private void grow(Cubes cubes, int c, int looks) {
            if (looks > MOST_BITS || nodes >= sign.length) {
                return;
            }
            int k = nodes;
            nodes++;
            ahead[k] = looks;
            if (cubes.isSettled(c)) {
                sign[k] = SAYS + cubes.saysAll(c);
            } else {
                sign[k] = cubes.bestBit(c);
                int power = Cubes.powerOf(sign[k]);
                grow(cubes, c - 2 * power, looks + 1);
                grow(cubes, c - power, looks + 1);
            }
            behind[k] = nodes;
        }

        /** Takes told numbers from the last on, so that the branches of each look stand ahead of it. */
        boolean parse(int[] told, int n, int bits) {
            for (int k = n - 1; k >= 0; k--) {
                int v = told[k];
                sign[k] = v;
                behind[k] = k + 1;
                if (v != SAYS && v != SAYS + 1) {
                    if (v < 0 || v >= bits || k + 1 >= n || branch(k, 1) >= n) {
                        return false;
                    }
                    behind[k] = behind[branch(k, 1)];
                }
            }
            nodes = n;
            return n > 0 && behind[0] == n;
        }

        boolean isLook(int k) {
            return sign[k] < SAYS;
        }

        int branch(int k, int value) {
            return value == 0 ? k + 1 : behind[k + 1];
        }

        /** What is said of x, and 10 times the looks. */
        int walk(int x) {
            int k = 0;
            int looks = 0;
            while (looks < nodes && isLook(k)) {
                k = branch(k, x >> sign[k] & 1);
                looks++;
            }
            return sign[k] - SAYS + 10 * looks;
        }
    }

    /** What becomes of an INPUT of a TOLD task when sets of its bits change. */
    private static final class Changes {
        /** Whether the set, or a part of it, is a BLOCK. */
        private final boolean[] turns = new boolean[MOST_INPUTS];
        /** BLOCKS no part of which is one: these are enough for the most that lie apart. */
        private final int[] blocks = new int[MOST_INPUTS];
        private final int[] apart = new int[MOST_INPUTS];
        private int many;

        int measure(Task task, int what, int x) {
            if (what == 0) {
                return sensitiveBits(task, x);
            }
            load(task, x);
            return what == 1 ? blocksApart(task) : proofBits(task);
        }

        int leastGreatest(Task task, int what, int side) {
            int best = NONE;
            int greatest = NONE;
            for (int x = 0; x < task.says.length && greatest < task.bits; x++) {
                if (side != 2 && task.says[x] != side) {
                    continue;
                }
                int value = measure(task, what, x);
                if (value > greatest) {
                    best = x;
                    greatest = value;
                }
            }
            return best;
        }

        private static int sensitiveBits(Task task, int x) {
            int sensitive = 0;
            for (int i = 0; i < task.bits; i++) {
                sensitive += task.says[x] != task.says[x ^ (1 << i)] ? 1 : 0;
            }
            return sensitive;
        }

        private void load(Task task, int x) {
            many = 0;
            for (int s = 0; s < task.says.length; s++) {
                boolean byPart = false;
                for (int i = 0; i < task.bits && !byPart; i++) {
                    byPart = (s >> i & 1) == 1 && turns[s ^ (1 << i)];
                }
                boolean isBlock = task.says[x ^ s] != task.says[x];
                turns[s] = byPart || isBlock;
                if (isBlock && !byPart) {
                    blocks[many] = s;
                    many++;
                }
            }
        }

        private int blocksApart(Task task) {
            int sets = task.says.length;
            for (int s = 0; s < sets; s++) {
                int most = 0;
                for (int b = 0; b < many && blocks[b] <= s; b++) {
                    if ((blocks[b] & ~s) == 0) {
                        most = Math.max(most, apart[s ^ blocks[b]] + 1);
                    }
                }
                apart[s] = most;
            }
            return apart[sets - 1];
        }

        private int proofBits(Task task) {
            int unasked = 0;
            for (int s = 0; s < task.says.length; s++) {
                if (!turns[s]) {
                    unasked = Math.max(unasked, Integer.bitCount(s));
                }
            }
            return task.bits - unasked;
        }
    }

    /** The numbers of all sets of bits, THE POLY's or THE SIGNS. */
    private static final class Numbers {
        final int[] row = new int[MOST_INPUTS];

        void loadPoly(Task task) {
            for (int x = 0; x < task.says.length; x++) {
                row[x] = task.says[x];
            }
            for (int i = 0; i < task.bits; i++) {
                for (int s = 0; s < task.says.length; s++) {
                    if ((s >> i & 1) == 1) {
                        row[s] -= row[s ^ (1 << i)];
                    }
                }
            }
        }

        void loadSigns(Task task) {
            for (int x = 0; x < task.says.length; x++) {
                row[x] = 1 - 2 * task.says[x];
            }
            for (int i = 0; i < task.bits; i++) {
                for (int s = 0; s < task.says.length; s++) {
                    if ((s >> i & 1) == 1) {
                        int without = row[s ^ (1 << i)];
                        int with = row[s];
                        row[s ^ (1 << i)] = without + with;
                        row[s] = without - with;
                    }
                }
            }
        }
    }

    /** Sets of INPUTS are the bits of an int here. */
    private static final class Form {
        final int[] chosen = new int[FORM_INPUTS];
        int length;
        /** The INPUTS of each CUBE, by its NUMBER; none if one of them says 0. */
        private final int[] inputs = new int[FORM_CUBES];
        /** The same for those CUBES alone that no wider one replaces: enough to tell how many are needed. */
        private final int[] widest = new int[FORM_CUBES];
        private int all;

        void find(Task task) {
            all = Cubes.powerOf(task.bits);
            for (int c = 0; c < all; c++) {
                inputs[c] = inputsOf(task, c);
            }
            for (int c = 0; c < all; c++) {
                widest[c] = hasWider(c) ? 0 : inputs[c];
            }
            int left = 0;
            for (int x = 0; x < task.says.length; x++) {
                left |= task.says[x] == 1 ? 1 << x : 0;
            }
            int fewest = 0;
            while (fewest < FORM_INPUTS && !canCover(left, fewest)) {
                fewest++;
            }
            length = fewest;
            for (int k = 0; k < length; k++) {
                chosen[k] = leastCube(left, length - k - 1);
                left &= ~inputs[chosen[k]];
            }
        }

        private static int inputsOf(Task task, int c) {
            int inputs = 0;
            for (int x = 0; x < task.says.length; x++) {
                if (isIn(task.bits, x, c)) {
                    if (task.says[x] == 0) {
                        return 0;
                    }
                    inputs |= 1 << x;
                }
            }
            return inputs;
        }

        private static boolean isIn(int bits, int x, int c) {
            int rest = c;
            for (int i = 0; i < bits; i++) {
                int digit = rest % 3;
                if (digit != 2 && digit != (x >> i & 1)) {
                    return false;
                }
                rest /= 3;
            }
            return true;
        }

        private boolean hasWider(int c) {
            int rest = c;
            for (int power = 1; power < all; power *= 3) {
                int digit = rest % 3;
                if (digit != 2 && inputs[c + (2 - digit) * power] != 0) {
                    return true;
                }
                rest /= 3;
            }
            return false;
        }

        /** Whether so many CUBES can have all INPUTS that are left; a level down, one CUBE less, 16 at most. */
        private boolean canCover(int left, int cubes) {
            if (left == 0 || cubes <= 0) {
                return left == 0;
            }
            int least = left & -left;
            for (int c = 0; c < all; c++) {
                if ((widest[c] & least) != 0 && canCover(left & ~widest[c], cubes - 1)) {
                    return true;
                }
            }
            return false;
        }

        /** The CUBE of the least NUMBER behind which so many more are enough. */
        private int leastCube(int left, int more) {
            int least = left & -left;
            for (int c = 0; c < all; c++) {
                if ((inputs[c] & least) != 0 && canCover(left & ~inputs[c], more)) {
                    return c;
                }
            }
            return 0;
        }
    }

    /** LETTERS of all tasks of 3 bits, each by the number whose bits are what its INPUTS say. */
    private static final class Letters {
        private static final int TASKS = 256;
        private static final int UNKNOWN = 99;
        /** No task of 3 bits needs more than their parity does. */
        private static final int MOST_LETTERS = 10;

        private final int[] fewest = new int[TASKS];
        private boolean known;

        int fewestFor(Task task) {
            if (!known) {
                learn();
                known = true;
            }
            int number = 0;
            for (int x = 0; x < 8; x++) {
                number |= task.says[x & (task.says.length - 1)] << x;
            }
            return fewest[number];
        }

        private void learn() {
            Arrays.fill(fewest, UNKNOWN);
            lower(0, 0);
            lower(0xAA, 1);
            lower(0xCC, 1);
            lower(0xF0, 1);
            for (int letters = 2; letters <= MOST_LETTERS; letters++) {
                joinTo(letters);
            }
        }

        private void joinTo(int letters) {
            for (int f = 0; f < TASKS; f++) {
                if (fewest[f] == 0 || 2 * fewest[f] > letters) {
                    continue;
                }
                for (int g = 0; g < TASKS; g++) {
                    if (fewest[f] + fewest[g] == letters) {
                        lower(f & g, letters);
                    }
                }
            }
        }

        /** NOT has no letter, so a task and its NOT need as many, and AND does the work of OR. */
        private void lower(int f, int letters) {
            if (letters < fewest[f]) {
                fewest[f] = letters;
                fewest[TASKS - 1 - f] = letters;
            }
        }
    }

    /** Has CUBES of its own, as a task may change while THE GAME about it goes on. */
    private static final class Game {
        private final Cubes cubes = new Cubes();
        private int bits;
        private int asked;
        private int left;

        int begin(Task task) {
            cubes.weigh(task, false);
            bits = task.bits;
            asked = 0;
            left = cubes.all;
            return cubes.weightOfAll();
        }

        /** Without a GAME there are 0 bits, and no bit is one of them. */
        int answer(int bit) {
            if (bit < 0 || bit >= bits || (asked >> bit & 1) == 1) {
                return BAD;
            }
            if (cubes.isSettled(left)) {
                return NOT_SO;
            }
            int one = left - Cubes.powerOf(bit);
            int zero = one - Cubes.powerOf(bit);
            int value = cubes.weight[one] > cubes.weight[zero] ? 1 : 0;
            left = value == 1 ? one : zero;
            asked |= 1 << bit;
            return 10 * cubes.weight[left] + value;
        }
    }
}
