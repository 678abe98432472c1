import java.lang.reflect.Method;
import java.nio.file.Files;
import java.nio.file.Path;
import java.util.regex.Matcher;
import java.util.regex.Pattern;

/** README.md's example answers what stands behind its calls, and names every call of the class. */
public final class ReadmeTest {
    private static final Pattern BLOCK = Pattern.compile("(?s)```java\n(.*?)```");
    private static final Pattern CALL = Pattern.compile("bench\\.(\\w+)\\(([-\\d, ]*)\\); +// (-?\\d+)(:? .*)?");
    private static final Due DUE = new Due();

    public static void main(String[] args) throws Exception {
        String readme = Files.readString(Path.of("README.md"));
        example(readme);
        for (Method method : QuestionBench.class.getDeclaredMethods()) {
            if (java.lang.reflect.Modifier.isPublic(method.getModifiers())) {
                DUE.due("README.md names " + method.getName(), readme.contains("`" + method.getName() + "`") ? 1 : 0, 1);
            }
        }
        DUE.end();
    }

    private static void example(String readme) throws Exception {
        Matcher block = BLOCK.matcher(readme);
        DUE.due("README.md has an example", block.find() ? 1 : 0, 1);
        QuestionBench bench = new QuestionBench();
        int calls = 0;
        for (String line : block.group(1).split("\n")) {
            Matcher call = CALL.matcher(line);
            if (call.matches()) {
                calls++;
                DUE.due(line, answer(bench, call.group(1), call.group(2)), Long.parseLong(call.group(3)));
            } else {
                boolean other = line.isEmpty() || line.startsWith("//") || line.equals("QuestionBench bench = new QuestionBench();");
                DUE.due("a line that is no call: " + line, other ? 1 : 0, 1);
            }
        }
        DUE.due("the example has calls", calls > 0 ? 1 : 0, 1);
    }

    private static int answer(QuestionBench bench, String name, String told) throws Exception {
        String[] numbers = told.isBlank() ? new String[0] : told.split(", *");
        for (Method method : QuestionBench.class.getDeclaredMethods()) {
            if (method.getName().equals(name) && method.getParameterCount() == numbers.length) {
                Object[] arguments = new Object[numbers.length];
                for (int k = 0; k < numbers.length; k++) {
                    boolean isLong = method.getParameterTypes()[k] == long.class;
                    arguments[k] = isLong ? (Object) Long.valueOf(numbers[k]) : (Object) Integer.valueOf(numbers[k]);
                }
                return (int) method.invoke(bench, arguments);
            }
        }
        DUE.due("the class has " + name, 0, 1);
        return 0;
    }
}
