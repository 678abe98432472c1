import java.util.ArrayList;
import java.util.Arrays;
import java.util.HashMap;
import java.util.List;
import java.util.Map;

/**
 * The document told a second time, word by word and without regard to speed:
 * each term is worked out from its definition, so that a slip in the program's quicker ways shows.
 */
final class PlainBench {
    record Task(int kind, int bits, int worth, List<Integer> says) {
        int inputs() {
            return 1 << bits;
        }

        int say(int x) {
            return says.get(x);
        }

        boolean told() {
            return !says.contains(2);
        }

        int many(int v) {
            return (int) says.stream().filter(said -> said == v).count();
        }
    }

    record Node(int sign, int ahead, int[] next) {
    }

    private final Object[] sheets = new Object[6];
    private Task[] places = new Task[8];
    private Task[] kept = null;
    private final List<Integer> waiting = new ArrayList<>();
    private int[] shown = {-1, -1};
    private List<Node> tree = new ArrayList<>();
    private List<Integer> form = new ArrayList<>();
    private Task gameTask = null;
    private final Map<Integer, Integer> gameValues = new HashMap<>();
    private int met = 0;

    // ---- sheets

    int sheet(int s, int sort, int n) {
        if (noSheet(s) || noSort(sort) || n > 256) return -2;
        if (n < 0) return meets(-13);
        sheets[s] = switch (sort) {
            case 0 -> new byte[n];
            case 1 -> new short[n];
            case 2 -> new int[n];
            default -> new long[n];
        };
        return n;
    }

    int lose(int s) {
        if (noSheet(s)) return -2;
        int was = sheets[s] != null ? 1 : 0;
        sheets[s] = null;
        return was;
    }

    int write(int s, int i, long v) {
        if (noSheet(s)) return -2;
        if (sheets[s] == null) return meets(-10);
        if (i < 0 || i >= length(sheets[s])) return meets(-11);
        if (sheets[s] instanceof byte[] row) row[i] = (byte) v;
        if (sheets[s] instanceof short[] row) row[i] = (short) v;
        if (sheets[s] instanceof int[] row) row[i] = (int) v;
        if (sheets[s] instanceof long[] row) row[i] = v;
        return length(sheets[s]);
    }

    int look(int s, int sort, int i) {
        if (noSheet(s) || noSort(sort)) return -2;
        if (sheets[s] == null) return meets(-10);
        if (sort(sheets[s]) != sort) return meets(-12);
        if (i < 0 || i >= length(sheets[s])) return meets(-11);
        long v = java.lang.reflect.Array.getLong(sheets[s], i);
        return v > 0 ? 1 : v == 0 ? 2 : 3;
    }

    int copy(int s, int from, int t, int to, int n) {
        if (noSheet(s) || noSheet(t)) return -2;
        if (sheets[s] == null || sheets[t] == null) return meets(-10);
        if (sort(sheets[s]) != sort(sheets[t])) return meets(-12);
        if (from < 0 || to < 0 || n < 0 || (long) from + n > length(sheets[s]) || (long) to + n > length(sheets[t])) {
            return meets(-11);
        }
        System.arraycopy(sheets[s], from, sheets[t], to, n);
        return n;
    }

    private static boolean noSheet(int s) {
        return s < 0 || s > 5;
    }

    private static boolean noSort(int sort) {
        return sort < 0 || sort > 3;
    }

    private static int length(Object row) {
        return java.lang.reflect.Array.getLength(row);
    }

    private static int sort(Object row) {
        return row instanceof byte[] ? 0 : row instanceof short[] ? 1 : row instanceof int[] ? 2 : 3;
    }

    private int meets(int finding) {
        met++;
        return finding;
    }

    // ---- tasks

    int task(int p, int bits, int s) {
        if (noPlace(p) || noSheet(s) || bits < 1 || bits > 8) return -2;
        List<Integer> says = new ArrayList<>();
        for (int x = 0; x < 1 << bits; x++) {
            if (sheets[s] == null) {
                says.add(0);
            } else if (x >= length(sheets[s])) {
                says.add(2);
            } else {
                long v = java.lang.reflect.Array.getLong(sheets[s], x);
                says.add(v > 0 ? 1 : v == 0 ? 0 : 2);
            }
        }
        places[p] = new Task(0, bits, bits, says);
        return places[p].many(2);
    }

    int kind(int p, int kind) {
        if (noPlace(p) || kind < 0 || kind > 2) return -2;
        if (places[p] == null) return meets(-10);
        Task task = places[p];
        if (kind != 0) {
            int[] flaw = flaw(task, kind);
            if (flaw != null) {
                shown = flaw;
                return -3;
            }
        }
        places[p] = new Task(kind, task.bits, task.bits + (kind == 0 ? 0 : 10), task.says);
        return task.kind;
    }

    private static int[] flaw(Task task, int kind) {
        if (!task.told()) return new int[] {task.says.indexOf(2), task.says.indexOf(2)};
        for (int x = 0; x < task.inputs(); x++) {
            for (int y = 0; y < task.inputs(); y++) {
                boolean bitMore = (x & y) == x && Integer.bitCount(y) == Integer.bitCount(x) + 1;
                boolean level = Integer.bitCount(x) == Integer.bitCount(y);
                if (task.say(x) == 1 && task.say(y) == 0 && (kind == 1 ? bitMore : level)) return new int[] {x, y};
            }
        }
        return null;
    }

    int shown(int i) {
        return i < 0 || i > 1 ? -2 : shown[i];
    }

    int say(int p, int x) {
        if (noPlace(p)) return -2;
        if (places[p] == null) return meets(-10);
        if (x < 0 || x >= places[p].inputs()) return meets(-11);
        return places[p].say(x);
    }

    int set(int p, int x, int v) {
        if (noPlace(p) || v < 0 || v > 2) return -2;
        if (places[p] == null) return meets(-10);
        if (x < 0 || x >= places[p].inputs()) return meets(-11);
        List<Integer> says = new ArrayList<>(places[p].says);
        int said = says.set(x, v);
        places[p] = new Task(0, places[p].bits, places[p].bits, says);
        return said;
    }

    int of(int p, int what) {
        if (noPlace(p) || what < 0 || what > 4) return -2;
        if (places[p] == null) return meets(-10);
        Task task = places[p];
        return switch (what) {
            case 0 -> task.kind;
            case 1 -> task.bits;
            case 2 -> task.many(1);
            case 3 -> task.many(2);
            default -> task.worth;
        };
    }

    int clear(int p) {
        if (noPlace(p)) return -2;
        int was = places[p] != null ? 1 : 0;
        places[p] = null;
        return was;
    }

    int move(int p, int q) {
        if (noPlace(p) || noPlace(q)) return -2;
        if (places[p] == null) return meets(-10);
        places[q] = places[p];
        return places[q].bits;
    }

    int tell(int v) {
        if (waiting.size() == 100) return -2;
        waiting.add(v);
        return waiting.size();
    }

    int put(int p, int q) {
        List<Integer> told = List.copyOf(waiting);
        waiting.clear();
        if (noPlace(p) || noPlace(q)) return -2;
        if (places[q] == null) return meets(-10);
        Task outer = places[q];
        if (told.size() != outer.bits || told.stream().anyMatch(PlainBench::noPlace)) return -2;
        List<Task> inner = new ArrayList<>();
        for (int place : told) {
            if (places[place] == null) return meets(-10);
            inner.add(places[place]);
        }
        if (!outer.told() || !inner.stream().allMatch(Task::told)) return -4;
        int bits = inner.stream().mapToInt(Task::bits).sum();
        if (bits > 8) return -5;
        List<Integer> says = new ArrayList<>();
        for (int x = 0; x < 1 << bits; x++) {
            int from = 0;
            int asked = 0;
            for (int j = 0; j < inner.size(); j++) {
                int own = 0;
                for (int i = 0; i < inner.get(j).bits; i++) {
                    own += bit(x, from + i) << i;
                }
                from += inner.get(j).bits;
                asked += inner.get(j).say(own) << j;
            }
            says.add(outer.say(asked));
        }
        places[p] = new Task(3, bits, inner.stream().mapToInt(Task::worth).sum(), says);
        return bits;
    }

    int read(int p) {
        List<Integer> told = List.copyOf(waiting);
        waiting.clear();
        if (noPlace(p)) return -2;
        int bits = (int) told.stream().filter(v -> v >= 0 && v <= 7).count();
        for (int i = 0; i < bits; i++) {
            if (!told.contains(i)) return -2;
        }
        if (bits > 8) return -2;
        List<Integer> says = new ArrayList<>();
        for (int x = 0; x < 1 << bits; x++) {
            int said = formula(told, x);
            if (said < 0) return -2;
            says.add(said);
        }
        places[p] = new Task(4, bits, 100 + bits, says);
        return bits;
    }

    private static int formula(List<Integer> told, int x) {
        List<Integer> stack = new ArrayList<>();
        for (int v : told) {
            if (v >= 0 && v <= 7) {
                stack.add(bit(x, v));
            } else if (v == 10 || v == 11) {
                if (stack.size() < 2) return -1;
                int b = stack.remove(stack.size() - 1);
                int a = stack.remove(stack.size() - 1);
                stack.add(v == 10 ? a * b : Math.max(a, b));
            } else if (v == 12) {
                if (stack.isEmpty()) return -1;
                stack.add(1 - stack.remove(stack.size() - 1));
            } else {
                return -1;
            }
        }
        return stack.size() == 1 ? stack.get(0) : -1;
    }

    int made(int p, int q, int how, int a) {
        if (noPlace(p) || noPlace(q) || how < 0 || how > 4) return -2;
        if (places[p] == null) return meets(-10);
        Task task = places[p];
        if (how >= 2 && (a < 0 || a >= task.bits)) return -2;
        if ((how == 2 || how == 3) && task.bits == 1) return -5;
        List<Integer> says = new ArrayList<>();
        for (int x = 0; x < task.inputs(); x++) {
            int said = task.say(x);
            switch (how) {
                case 0 -> says.add(not(said));
                case 1 -> says.add(not(task.say(x ^ (task.inputs() - 1))));
                case 2, 3 -> {
                    if (bit(x, a) == how - 2) says.add(said);
                }
                default -> says.add(task.say(bit(x, a) == 1 ? x - (1 << a) : x + (1 << a)));
            }
        }
        int bits = how == 2 || how == 3 ? task.bits - 1 : task.bits;
        places[q] = new Task(0, bits, bits, says);
        return bits;
    }

    private static int not(int said) {
        return said == 2 ? 2 : 1 - said;
    }

    int same(int p, int q) {
        if (noPlace(p) || noPlace(q)) return -2;
        if (places[p] == null || places[q] == null) return meets(-10);
        return places[p].says.equals(places[q].says) ? 1 : 0;
    }

    private static boolean noPlace(int p) {
        return p < 0 || p > 7;
    }

    private static int bit(int x, int i) {
        return x >> i & 1;
    }

    // ---- looks; a CUBE is a mask of bits that have values, and these values

    private static int number(int mask, int values) {
        return mask * 256 + values;
    }

    private static boolean settled(Task task, int mask, int values) {
        boolean yes = false;
        boolean no = false;
        for (int x = 0; x < task.inputs(); x++) {
            if ((x & mask) == values) {
                yes |= task.say(x) == 1;
                no |= task.say(x) == 0;
            }
        }
        return !(yes && no);
    }

    private static int weight(Task task, int mask, int values, boolean sums, Map<Integer, Integer> known) {
        Integer before = known.get(number(mask, values));
        if (before != null) return before;
        int weight = 0;
        if (!settled(task, mask, values)) {
            int least = Integer.MAX_VALUE;
            for (int i = 0; i < task.bits; i++) {
                if (bit(mask, i) == 0) least = Math.min(least, halves(task, mask, values, i, sums, known));
            }
            weight = least + (sums ? 1 << (task.bits - Integer.bitCount(mask)) : 1);
        }
        known.put(number(mask, values), weight);
        return weight;
    }

    private static int halves(Task task, int mask, int values, int i, boolean sums, Map<Integer, Integer> known) {
        int zero = weight(task, mask | 1 << i, values, sums, known);
        int one = weight(task, mask | 1 << i, values | 1 << i, sums, known);
        return sums ? zero + one : Math.max(zero, one);
    }

    int depth(int p) {
        if (noPlace(p)) return -2;
        if (places[p] == null) return meets(-10);
        return weight(places[p], 0, 0, false, new HashMap<>());
    }

    int sum(int p) {
        if (noPlace(p)) return -2;
        if (places[p] == null) return meets(-10);
        return weight(places[p], 0, 0, true, new HashMap<>());
    }

    int tree(int p, int best) {
        if (noPlace(p) || best < 0 || best > 1) return -2;
        if (places[p] == null) return meets(-10);
        tree = new ArrayList<>();
        grow(places[p], 0, 0, best == 1, new HashMap<>());
        return tree.size();
    }

    private int grow(Task task, int mask, int values, boolean sums, Map<Integer, Integer> known) {
        int k = tree.size();
        int ahead = Integer.bitCount(mask);
        if (settled(task, mask, values)) {
            int says = 2;
            for (int x = 0; x < task.inputs(); x++) {
                if ((x & mask) == values && task.say(x) != 2) says = task.say(x);
            }
            tree.add(new Node(20 + says, ahead, new int[] {-1, -1}));
            return k;
        }
        int own = sums ? 1 << (task.bits - ahead) : 1;
        int i = 0;
        while (bit(mask, i) == 1
                || halves(task, mask, values, i, sums, known) + own != weight(task, mask, values, sums, known)) {
            i++;
        }
        Node node = new Node(i, ahead, new int[2]);
        tree.add(node);
        node.next[0] = grow(task, mask | 1 << i, values, sums, known);
        node.next[1] = grow(task, mask | 1 << i, values | 1 << i, sums, known);
        return k;
    }

    int node(int k, int what) {
        if (k < 0 || k >= tree.size() || what < 0 || what > 3) return -2;
        Node node = tree.get(k);
        return what == 0 ? node.sign : what == 1 ? node.ahead : node.next[what - 2];
    }

    int run(int x) {
        if (tree.isEmpty() || x < 0 || x > 255) return -2;
        Node node = tree.get(0);
        while (node.sign < 20) {
            node = tree.get(node.next[bit(x, node.sign)]);
        }
        return node.sign - 20 + 10 * node.ahead;
    }

    int check(int p) {
        List<Integer> told = List.copyOf(waiting);
        waiting.clear();
        if (noPlace(p)) return -2;
        if (places[p] == null) return meets(-10);
        if (end(told, 0, places[p].bits) != told.size()) return -3;
        for (int x = 0; x < places[p].inputs(); x++) {
            int k = 0;
            while (told.get(k) < 20) {
                k = bit(x, told.get(k)) == 0 ? k + 1 : end(told, k + 1, 8);
            }
            if (places[p].say(x) != 2 && places[p].say(x) != told.get(k) - 20) return 1 + x;
        }
        return 0;
    }

    /** The place behind the tree that begins at k, -1 if none does. */
    private static int end(List<Integer> told, int k, int bits) {
        if (k < 0 || k >= told.size()) return -1;
        int v = told.get(k);
        if (v == 20 || v == 21) return k + 1;
        return v < 0 || v >= bits ? -1 : end(told, end(told, k + 1, bits), bits);
    }

    // ---- what settles

    private int notTold(int p) {
        if (noPlace(p)) return -2;
        if (places[p] == null) return meets(-10);
        return places[p].told() ? 0 : -4;
    }

    private static int measure(Task task, int what, int x) {
        return switch (what) {
            case 0 -> sensitive(task, x);
            case 1 -> blocks(task, x, task.inputs() - 1, new HashMap<>());
            default -> proof(task, x);
        };
    }

    private static int sensitive(Task task, int x) {
        int many = 0;
        for (int i = 0; i < task.bits; i++) {
            if (task.say(x) != task.say(x ^ 1 << i)) many++;
        }
        return many;
    }

    private static int blocks(Task task, int x, int free, Map<Integer, Integer> known) {
        Integer before = known.get(free);
        if (before != null) return before;
        int most = 0;
        for (int block = free; block > 0; block = (block - 1) & free) {
            if (task.say(x) != task.say(x ^ block)) most = Math.max(most, 1 + blocks(task, x, free ^ block, known));
        }
        known.put(free, most);
        return most;
    }

    private static int proof(Task task, int x) {
        int least = task.bits;
        for (int mask = 0; mask < task.inputs(); mask++) {
            boolean proves = true;
            for (int y = 0; y < task.inputs(); y++) {
                if ((x & mask) == (y & mask) && task.say(x) != task.say(y)) proves = false;
            }
            if (proves) least = Math.min(least, Integer.bitCount(mask));
        }
        return least;
    }

    int at(int p, int what, int x) {
        if (what < 0 || what > 2) return -2;
        int wrong = notTold(p);
        if (wrong != 0) return wrong;
        if (x < 0 || x >= places[p].inputs()) return meets(-11);
        return measure(places[p], what, x);
    }

    int most(int p, int what, int side) {
        if (what < 0 || what > 2 || side < 0 || side > 2) return -2;
        int wrong = notTold(p);
        if (wrong != 0) return wrong;
        int most = 0;
        for (int x = 0; x < places[p].inputs(); x++) {
            if (side == 2 || places[p].say(x) == side) most = Math.max(most, measure(places[p], what, x));
        }
        return most;
    }

    int where(int p, int what, int side) {
        int most = most(p, what, side);
        if (most < 0) return most;
        for (int x = 0; x < places[p].inputs(); x++) {
            if ((side == 2 || places[p].say(x) == side) && measure(places[p], what, x) == most) return x;
        }
        return -1;
    }

    private static int[] numbers(Task task) {
        int[] numbers = new int[task.inputs()];
        for (int s = 0; s < numbers.length; s++) {
            numbers[s] = task.say(s);
            for (int part = 0; part < s; part++) {
                if ((part & s) == part) numbers[s] -= numbers[part];
            }
        }
        return numbers;
    }

    int poly(int p, int set) {
        if (notTold(p) != 0 || set < 0 || set >= places[p].inputs()) return 0;
        return numbers(places[p])[set];
    }

    int degree(int p) {
        int wrong = notTold(p);
        if (wrong != 0) return wrong;
        int[] numbers = numbers(places[p]);
        int degree = 0;
        for (int s = 0; s < numbers.length; s++) {
            if (numbers[s] != 0) degree = Math.max(degree, Integer.bitCount(s));
        }
        return degree;
    }

    private static int signOf(Task task, int set) {
        int sign = 0;
        for (int x = 0; x < task.inputs(); x++) {
            sign += Integer.bitCount(x & set) % 2 == task.say(x) ? 1 : -1;
        }
        return sign;
    }

    int sign(int p, int set) {
        if (notTold(p) != 0 || set < 0 || set >= places[p].inputs()) return 0;
        return signOf(places[p], set);
    }

    int energy(int p, int many) {
        int wrong = notTold(p);
        if (wrong != 0) return wrong;
        if (many < 0 || many > 8) return -2;
        int energy = 0;
        for (int s = 0; s < places[p].inputs(); s++) {
            if (Integer.bitCount(s) == many) energy += signOf(places[p], s) * signOf(places[p], s);
        }
        return energy;
    }

    int pull(int p, int bit) {
        int wrong = notTold(p);
        if (wrong != 0) return wrong;
        if (bit < 0 || bit >= places[p].bits) return -2;
        int pull = 0;
        for (int x = 0; x < places[p].inputs(); x++) {
            if (places[p].say(x) != places[p].say(x ^ 1 << bit)) pull++;
        }
        return pull;
    }

    // ---- forms

    int form(int p) {
        if (noPlace(p)) return -2;
        if (places[p] == null) return meets(-10);
        if (places[p].bits > 4) return -5;
        int yes = 0;
        for (int x = 0; x < places[p].inputs(); x++) {
            if (places[p].say(x) == 1) yes |= 1 << x;
        }
        form = bestForm(places[p], yes, new HashMap<>());
        return form.size();
    }

    /** The row for what is left begins with some CUBE and goes on with the best row behind it. */
    private static List<Integer> bestForm(Task task, int left, Map<Integer, List<Integer>> known) {
        if (left == 0) return List.of();
        if (known.containsKey(left)) return known.get(left);
        List<Integer> best = null;
        for (int c = 0; c < Math.pow(3, task.bits); c++) {
            int inputs = cubeInputs(task, c);
            if ((inputs & Integer.lowestOneBit(left)) == 0) continue;
            List<Integer> row = new ArrayList<>(List.of(c));
            row.addAll(bestForm(task, left & ~inputs, known));
            if (best == null || row.size() < best.size()
                    || row.size() == best.size() && Arrays.compare(ints(row), ints(best)) < 0) {
                best = row;
            }
        }
        known.put(left, best);
        return best;
    }

    private static int[] ints(List<Integer> row) {
        return row.stream().mapToInt(Integer::intValue).toArray();
    }

    /** The INPUTS of a CUBE; none of them if one says 0. */
    private static int cubeInputs(Task task, int c) {
        int inputs = 0;
        for (int x = 0; x < task.inputs(); x++) {
            boolean in = true;
            for (int i = 0; i < task.bits; i++) {
                int digit = c / (int) Math.pow(3, i) % 3;
                in &= digit == 2 || digit == bit(x, i);
            }
            if (in && task.say(x) == 0) return 0;
            if (in) inputs |= 1 << x;
        }
        return inputs;
    }

    int cube(int k) {
        return k < 0 || k >= form.size() ? -2 : form.get(k);
    }

    private static final Map<Integer, int[]> LETTERS = new HashMap<>();

    int letters(int p) {
        int wrong = notTold(p);
        if (wrong != 0) return wrong;
        Task task = places[p];
        if (task.bits > 3) return -5;
        if (task.many(1) == 0 || task.many(0) == 0) return 0;
        int table = 0;
        for (int x = 0; x < task.inputs(); x++) {
            table |= task.say(x) << x;
        }
        return LETTERS.computeIfAbsent(task.bits, PlainBench::allLetters)[table];
    }

    /** Lowers every count by every formula of two parts until nothing can be lowered. */
    private static int[] allLetters(int bits) {
        int tables = 1 << (1 << bits);
        int[] fewest = new int[tables];
        Arrays.fill(fewest, 1000);
        for (int i = 0; i < bits; i++) {
            int table = 0;
            for (int x = 0; x < 1 << bits; x++) {
                table |= bit(x, i) << x;
            }
            fewest[table] = 1;
        }
        boolean lowered = true;
        while (lowered) {
            lowered = false;
            for (int f = 0; f < tables; f++) {
                lowered |= lower(fewest, tables - 1 - f, fewest[f]);
                for (int g = 0; g < tables; g++) {
                    lowered |= lower(fewest, f & g, fewest[f] + fewest[g]);
                    lowered |= lower(fewest, f | g, fewest[f] + fewest[g]);
                }
            }
        }
        return fewest;
    }

    private static boolean lower(int[] fewest, int f, int letters) {
        boolean lower = letters < fewest[f];
        if (lower) fewest[f] = letters;
        return lower;
    }

    // ---- the game

    int game(int p) {
        if (noPlace(p)) return -2;
        if (places[p] == null) return meets(-10);
        gameTask = places[p];
        gameValues.clear();
        return depth(p);
    }

    int ask(int bit) {
        if (gameTask == null || bit < 0 || bit >= gameTask.bits || gameValues.containsKey(bit)) return -2;
        int mask = 0;
        int values = 0;
        for (Map.Entry<Integer, Integer> asked : gameValues.entrySet()) {
            mask |= 1 << asked.getKey();
            values |= asked.getValue() << asked.getKey();
        }
        if (settled(gameTask, mask, values)) return -3;
        Map<Integer, Integer> known = new HashMap<>();
        int zero = weight(gameTask, mask | 1 << bit, values, false, known);
        int one = weight(gameTask, mask | 1 << bit, values | 1 << bit, false, known);
        gameValues.put(bit, one > zero ? 1 : 0);
        return one > zero ? 10 * one + 1 : 10 * zero;
    }

    // ---- all

    private int tasks() {
        return (int) Arrays.stream(places).filter(task -> task != null).count();
    }

    int keep() {
        kept = places.clone();
        return tasks();
    }

    int back() {
        if (kept == null) return meets(-10);
        places = kept.clone();
        return tasks();
    }

    int count(int what) {
        return switch (what) {
            case 0 -> tasks();
            case 1 -> waiting.size();
            case 2 -> tree.size();
            case 3 -> form.size();
            case 4 -> met;
            default -> -2;
        };
    }
}
