import java.lang.management.ManagementFactory;
import java.lang.reflect.Constructor;
import java.lang.reflect.Field;
import java.lang.reflect.Method;
import java.lang.reflect.Modifier;
import java.nio.file.Files;
import java.nio.file.Path;
import java.util.Arrays;
import java.util.Set;
import java.util.TreeSet;
import java.util.regex.Matcher;
import java.util.regex.Pattern;

/** The public face of the document, and those rules of LANGUAGE.md that the compiled class and its text show. */
public final class LanguageTest {
    private static final Path SOURCE = Path.of("src/main/java/QuestionBench.java");
    private static final Path DOCUMENT = Path.of("../shared/DOC.md");
    private static final Due DUE = new Due();

    public static void main(String[] args) throws Exception {
        face();
        members();
        words();
        sizes();
        room();
        DUE.end();
    }

    private static void face() throws Exception {
        String text = Files.readString(DOCUMENT);
        Set<String> told = new TreeSet<>();
        Matcher line = Pattern.compile("(?m)^    public (int \\w+\\([^)]*\\));$").matcher(text);
        while (line.find()) {
            told.add(line.group(1).replaceAll("(int|long) \\w+(?=[,)])", "$1"));
        }
        Set<String> has = new TreeSet<>();
        for (Method method : QuestionBench.class.getDeclaredMethods()) {
            if (!Modifier.isPrivate(method.getModifiers())) {
                String types = Arrays.toString(method.getParameterTypes()).replaceAll("[\\[\\]]", "");
                has.add(method.getReturnType() + " " + method.getName() + "(" + types + ")");
                DUE.due(method.getName() + " is public and not static", method.getModifiers() & ~Modifier.FINAL, Modifier.PUBLIC);
            }
        }
        DUE.due("calls that the document tells", told.size(), 40);
        DUE.due("the face " + has + " is the document's " + told, has.equals(told) ? 1 : 0, 1);
        DUE.due("the class", QuestionBench.class.getModifiers(), Modifier.PUBLIC | Modifier.FINAL);
        Constructor<?>[] constructors = QuestionBench.class.getDeclaredConstructors();
        DUE.due("constructors", constructors.length, 1);
        DUE.due("the constructor's modifiers", constructors[0].getModifiers(), Modifier.PUBLIC);
        DUE.due("the constructor's parameters", constructors[0].getParameterCount(), 0);
    }

    private static void members() {
        Set<String> names = new TreeSet<>();
        for (Method method : QuestionBench.class.getMethods()) {
            if (method.getDeclaringClass() == QuestionBench.class) names.add(method.getName());
        }
        for (Field field : QuestionBench.class.getDeclaredFields()) {
            DUE.due("field " + field.getName() + " is private", Modifier.isPrivate(field.getModifiers()) ? 1 : 0, 1);
        }
        Class<?>[] inside = QuestionBench.class.getDeclaredClasses();
        DUE.due("at most twelve classes", inside.length <= 11 ? 1 : 0, 1);
        for (Class<?> each : inside) {
            DUE.due(each + " is static", Modifier.isStatic(each.getModifiers()) ? 1 : 0, 1);
            for (Method method : each.getDeclaredMethods()) {
                DUE.due(method + " bears a public name", names.contains(method.getName()) ? 1 : 0, 0);
            }
        }
        for (Method method : QuestionBench.class.getDeclaredMethods()) {
            boolean shared = Modifier.isPrivate(method.getModifiers()) && names.contains(method.getName());
            DUE.due(method + " is private with a public name", shared ? 1 : 0, 0);
        }
    }

    private static String code() throws Exception {
        return Files.readString(SOURCE).replaceAll("(?s)/\\*.*?\\*/", "").replaceAll("//[^\n]*", "");
    }

    private static void words() throws Exception {
        String code = code();
        String[] ruledOut = {
            "\\bthrows?\\b", "\\btry\\b", "\\bcatch\\b", "\\bsynchronized\\b", "\\bassert\\b", "->", "::", "\\bvar\\b",
            "Exact\\b", "MAX_VALUE", "MIN_VALUE", "\\bpackage\\b", "\\bString\\.format", "\\bhashCode\\b", "\\bSystem\\.(?!arraycopy)",
            "\\bThread\\b", "\\bRandom\\b", "\\bstatic \\{", "while \\(true\\)", "for \\(;;\\)", "[^\\x00-\\x7f]"
        };
        for (String word : ruledOut) {
            DUE.due("the text has " + word, Pattern.compile(word).matcher(code).find() ? 1 : 0, 0);
        }
        Matcher imports = Pattern.compile("(?m)^import (.*);$").matcher(code);
        while (imports.find()) {
            String name = imports.group(1);
            DUE.due("import of " + name, name.matches("java\\.util\\.(Arrays|ArrayList|List|Iterator)") ? 1 : 0, 1);
        }
        // a divisor is a literal or a constant that is not 0
        Matcher divisor = Pattern.compile("[/%]=? *(\\w+)").matcher(code);
        while (divisor.find()) {
            DUE.due("divisor " + divisor.group(1), divisor.group(1).matches("3|10|MOST_INPUTS") ? 1 : 0, 1);
        }
    }

    private static void sizes() throws Exception {
        int began = 0;
        String[] lines = Files.readString(SOURCE).split("\n");
        for (int k = 0; k < lines.length; k++) {
            if (lines[k].matches(" {4,8}\\S.*\\) \\{")) began = k;
            if (lines[k].matches(" {4,8}\\}")) {
                DUE.due("the method that begins in line " + (began + 1) + " is short", k - began <= 60 ? 1 : 0, 1);
            }
        }
    }

    /** The room of a run is 7.3 million elements; the dearest runs are to stay far below that. */
    private static void room() {
        com.sun.management.ThreadMXBean threads = (com.sun.management.ThreadMXBean) ManagementFactory.getThreadMXBean();
        long[] bytes = new long[4];
        for (int sort = 0; sort < bytes.length; sort++) {
            long before = threads.getCurrentThreadAllocatedBytes();
            QuestionBench bench = new QuestionBench();
            bench.task(0, 8, 0);
            for (int call = 0; call < 511; call++) {
                dearest(bench, sort, call);
            }
            bytes[sort] = threads.getCurrentThreadAllocatedBytes() - before;
            DUE.due("bytes of a run of sort " + sort + ": " + bytes[sort] + ", few", bytes[sort] < 2000000 ? 1 : 0, 1);
        }
    }

    private static void dearest(QuestionBench bench, int sort, int call) {
        switch (sort) {
            case 0 -> bench.set(0, call % 256, call % 3);
            case 1 -> bench.sheet(call % 6, 3, 256);
            case 2 -> bench.made(0, call % 8, 0, 0);
            default -> {
                bench.tree(call % 8, call % 2);
                bench.game(call % 8);
                bench.most(0, 1, 2);
                bench.form(0);
                bench.letters(0);
                bench.keep();
                bench.back();
            }
        }
    }
}
