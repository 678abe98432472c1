import java.lang.reflect.Method;
import java.util.Arrays;
import java.util.Comparator;

/**
 * Every call with every mixture of arguments at and beyond the edges, the farthest of all numbers among them, on the program
 * and on the plain telling of the document at once. No call may throw, and both answer the same.
 */
public final class ExtremesTest {
    private static final int CALLS = 512;
    private static final long[] MANY = {
        Integer.MIN_VALUE, Integer.MIN_VALUE + 1, -257, -256, -255, -13, -2, -1, 0, 1, 2, 3, 4, 5, 6, 7, 8, 9, 10, 11, 12, 15, 16, 17,
        20, 21, 22, 31, 32, 33, 63, 64, 99, 100, 101, 127, 128, 254, 255, 256, 257, 511, 65536, Integer.MAX_VALUE - 1, Integer.MAX_VALUE
    };
    private static final long[] SOME = {Integer.MIN_VALUE, -256, -1, 0, 1, 2, 3, 4, 5, 6, 7, 8, 16, 255, 256, 257, Integer.MAX_VALUE};
    private static final long[] FEW = {Integer.MIN_VALUE, -1, 0, 1, 2, 3, 4, 5, 8, 256, Integer.MAX_VALUE};
    private static final long[] LONGS = {
        Long.MIN_VALUE, Integer.MIN_VALUE - 1L, Integer.MIN_VALUE, -32769, -32768, -129, -128, -1, 0, 1, 127, 128, 256, 32767, 32768, 65536,
        Integer.MAX_VALUE, Integer.MAX_VALUE + 1L, 1L << 32, Long.MAX_VALUE
    };

    private final Due due = new Due();
    private QuestionBench bench;
    private PlainBench plain;
    private int calls;

    public static void main(String[] args) throws Exception {
        ExtremesTest test = new ExtremesTest();
        Method[] methods = QuestionBench.class.getDeclaredMethods();
        Arrays.sort(methods, Comparator.comparing(Method::getName));
        for (Method method : methods) {
            if (java.lang.reflect.Modifier.isPublic(method.getModifiers())) {
                test.begin();
                test.mix(method, new Object[method.getParameterCount()], 0);
            }
        }
        test.due.end();
    }

    private void begin() throws Exception {
        bench = new QuestionBench();
        plain = new PlainBench();
        calls = 0;
        String[] recipe = {
            "sheet 0 0 4", "write 0 0 1", "write 0 2 -1", "sheet 1 1 2", "write 1 1 9", "sheet 2 2 0", "sheet 3 3 256", "write 3 255 -5",
            "write 3 1 5", "sheet 4 0 256", "task 0 2 0", "task 1 3 5", "set 1 3 1", "set 1 5 1", "set 1 6 1", "set 1 7 1", "kind 1 2",
            "tell 0", "tell 1", "tell 10", "read 2", "task 3 5 5", "task 4 8 5", "set 4 255 1", "task 5 1 5", "set 5 0 1", "tell 5", "tell 5",
            "put 6 2", "keep", "kind 5 1", "set 6 0 2", "tree 1 0", "form 1", "game 1", "ask 1", "tell 0", "tell 12"
        };
        for (String line : recipe) {
            String[] words = line.split(" ");
            Object[] arguments = new Object[words.length - 1];
            Method method = find(words[0]);
            for (int k = 0; k < arguments.length; k++) {
                arguments[k] = boxed(method, k, Long.parseLong(words[k + 1]));
            }
            both(method, arguments);
        }
    }

    private static Method find(String name) {
        for (Method method : QuestionBench.class.getDeclaredMethods()) {
            if (method.getName().equals(name)) return method;
        }
        throw new IllegalStateException(name);
    }

    private static Object boxed(Method method, int k, long v) {
        if (method.getParameterTypes()[k] == long.class) return v;
        return (int) v;
    }

    private static long[] values(Method method, int k) {
        if (method.getParameterTypes()[k] == long.class) return LONGS;
        int many = method.getParameterCount();
        return many <= 2 ? MANY : many <= 3 ? SOME : FEW;
    }

    private void mix(Method method, Object[] arguments, int k) throws Exception {
        if (k == arguments.length) {
            if (calls >= CALLS - 8) begin();
            both(method, arguments);
            // what was met and what waits, as these are told of refused calls
            both(find("count"), new Object[] {4});
            both(find("count"), new Object[] {1});
            return;
        }
        for (long v : values(method, k)) {
            arguments[k] = boxed(method, k, v);
            mix(method, arguments, k + 1);
        }
    }

    private void both(Method method, Object[] arguments) throws Exception {
        calls++;
        Object want = PlainBench.class.getDeclaredMethod(method.getName(), method.getParameterTypes()).invoke(plain, arguments);
        Object got = method.invoke(bench, arguments);
        due.due(method.getName() + Arrays.toString(arguments), (Integer) got, (Integer) want);
    }
}
