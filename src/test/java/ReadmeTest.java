import java.io.IOException;
import java.lang.reflect.Method;
import java.lang.reflect.Modifier;
import java.net.URL;
import java.net.URLClassLoader;
import java.nio.file.Files;
import java.nio.file.Path;
import java.util.ArrayList;
import java.util.List;
import java.util.Map;
import java.util.Set;
import java.util.TreeMap;
import java.util.TreeSet;
import java.util.regex.Matcher;
import java.util.regex.Pattern;
import java.util.stream.Collectors;
import java.util.stream.Stream;
import javax.tools.ToolProvider;

/** What README.md says of the class, its calls and answers, and of the tests that there are. */
public final class ReadmeTest {
    private static final Check check = new Check();
    private static final Pattern EXAMPLE = Pattern.compile("```java\n(.*?)```", Pattern.DOTALL);
    private static final Pattern LINE = Pattern.compile("(?:int (\\w+) = )?(x\\.\\w+\\(.*\\)); *// (-?\\w+): .*");
    private static final Pattern CALL_ROW = Pattern.compile("(?m)^\\| `(\\w+)\\((.*?)\\)` \\|.*$");
    private static final Pattern TEST_ROW = Pattern.compile("(?m)^\\| `(\\w+Test)` \\|");
    private static final Pattern CONSTANT = Pattern.compile("`(REFUSED|FULL|NONE|EMPTY|FAULT)`");
    private static final int[] NUMBERS = {-1, 0, 1, 70};

    public static void main(String[] args) throws Exception {
        String readme = Files.readString(Path.of("README.md"));
        exampleAnswersAsItSays(readme);
        callsAnswerAsTheTableSays(readme);
        tablesNameTheTests(readme);
        check.end();
    }

    // The example: it is compiled as it stands, each line giving its answer to a row.

    private static void exampleAnswersAsItSays(String readme) throws Exception {
        Matcher example = EXAMPLE.matcher(readme);
        check.due("there is an example", 1, example.find() ? 1 : 0);
        List<String> lines = new ArrayList<>();
        List<Long> due = new ArrayList<>();
        StringBuilder code = new StringBuilder();
        for (String line : example.group(1).split("\n")) {
            Matcher parts = LINE.matcher(line);
            if (parts.matches()) {
                code.append(statementOf(parts, due.size()));
                lines.add(line);
                due.add(answerOf(parts.group(3)));
            } else if (!line.isBlank()) {
                check.due("a line that makes an object: " + line, 1, line.contains("new RulePayroll()") ? 1 : 0);
                code.append(line).append('\n');
            }
        }
        long[] got = answersOf(code.toString(), due.size());
        for (int i = 0; i < got.length; i++) {
            check.due(lines.get(i), due.get(i), got[i]);
        }
        check.due("the example has lines", 1, due.isEmpty() ? 0 : 1);
    }

    private static String statementOf(Matcher parts, int number) {
        String name = parts.group(1);
        String call = parts.group(2);
        String answer = name == null ? call : name;
        return (name == null ? "" : "int " + name + " = " + call + ";\n") + "got[" + number + "] = " + answer + ";\n";
    }

    private static long answerOf(String word) {
        switch (word) {
            case "REFUSED": return RulePayroll.REFUSED;
            case "FULL": return RulePayroll.FULL;
            case "NONE": return RulePayroll.NONE;
            case "EMPTY": return RulePayroll.EMPTY;
            default: return Long.parseLong(word);
        }
    }

    private static long[] answersOf(String code, int lines) throws Exception {
        Path place = Files.createTempDirectory("readme");
        Path source = place.resolve("Example.java");
        Files.writeString(source, "public final class Example {\npublic static long[] answers() {\n"
            + "long[] got = new long[" + lines + "];\n" + code + "return got;\n}\n}\n");
        int failed = ToolProvider.getSystemJavaCompiler().run(null, null, null,
            "-cp", System.getProperty("java.class.path"), "-d", place.toString(), source.toString());
        check.due("the example compiles", 0, failed);
        try (URLClassLoader loader = new URLClassLoader(new URL[] {place.toUri().toURL()})) {
            return (long[]) loader.loadClass("Example").getMethod("answers").invoke(null);
        } finally {
            deleteAllIn(place);
        }
    }

    private static void deleteAllIn(Path place) throws IOException {
        try (Stream<Path> files = Files.list(place)) {
            for (Path file : files.collect(Collectors.toList())) {
                Files.delete(file);
            }
        }
        Files.delete(place);
    }

    // The calls: all are there, and each answers with those constants that its row names.

    private static void callsAnswerAsTheTableSays(String readme) throws Exception {
        Map<String, Method> calls = new TreeMap<>();
        for (Method method : RulePayroll.class.getDeclaredMethods()) {
            if (Modifier.isPublic(method.getModifiers())) {
                calls.put(method.getName(), method);
            }
        }
        Set<String> found = new TreeSet<>();
        Matcher row = CALL_ROW.matcher(readme);
        while (row.find()) {
            String name = row.group(1);
            found.add(name);
            int parameters = row.group(2).isEmpty() ? 0 : row.group(2).split(", ").length;
            check.due("a call of the face: " + name, 1, calls.containsKey(name) ? 1 : 0);
            check.due("parameters of " + name, calls.get(name).getParameterCount(), parameters);
            same("constants that " + name + " answers", constantsAnsweredBy(calls.get(name)), constantsIn(row.group()));
        }
        same("calls", calls.keySet(), found);
    }

    private static Set<String> constantsIn(String text) {
        Set<String> named = new TreeSet<>();
        Matcher constant = CONSTANT.matcher(text);
        while (constant.find()) {
            named.add(constant.group(1));
        }
        return named;
    }

    /** With all choices of a few numbers, on a new payroll and on a full one. */
    private static Set<String> constantsAnsweredBy(Method call) throws Exception {
        Set<String> answered = new TreeSet<>();
        int choices = 1 << 2 * call.getParameterCount();
        for (RulePayroll x : List.of(new RulePayroll(), full())) {
            for (int choice = 0; choice < choices; choice++) {
                Object[] arguments = new Object[call.getParameterCount()];
                for (int i = 0; i < arguments.length; i++) {
                    int number = NUMBERS[choice >> 2 * i & 3];
                    arguments[i] = call.getParameterTypes()[i] == boolean.class ? (Object) (number > 0) : (Object) number;
                }
                note(((Number) call.invoke(x, arguments)).longValue(), answered);
            }
        }
        return answered;
    }

    private static void note(long answer, Set<String> answered) {
        if (answer > RulePayroll.FAULT) {
            answered.add("FAULT");
        }
        for (String name : List.of("REFUSED", "FULL", "NONE", "EMPTY")) {
            if (answer == answerOf(name)) {
                answered.add(name);
            }
        }
    }

    /** Nodes 0 and 1 are EMPTY and a FAULT; there is no room for nodes, steps and runs. */
    private static RulePayroll full() {
        RulePayroll x = new RulePayroll();
        Check.nothing(x);
        x.node(Check.NOT, 0, 0, 0);
        for (int n = 2; n < 70; n++) {
            Check.number(x, n);
        }
        for (int s = 1; s <= 5; s++) {
            x.step(0, s, 0);
            x.step(1, s, 0);
        }
        for (int r = 0; r < 16; r++) {
            x.pay();
        }
        return x;
    }

    // The tests.

    private static void tablesNameTheTests(String readme) throws IOException {
        Set<String> named = new TreeSet<>();
        Matcher row = TEST_ROW.matcher(readme);
        while (row.find()) {
            check.due("named once: " + row.group(1), 1, named.add(row.group(1)) ? 1 : 0);
        }
        try (Stream<Path> files = Files.list(Path.of("src", "test", "java"))) {
            Set<String> there = files.map(file -> file.getFileName().toString())
                .filter(file -> file.endsWith("Test.java"))
                .map(file -> file.replace(".java", ""))
                .collect(Collectors.toCollection(TreeSet::new));
            same("tests", there, named);
        }
    }

    private static void same(String what, Set<String> want, Set<String> got) {
        if (!want.equals(got)) {
            System.out.println(what + " are " + want + ", README.md names " + got);
        }
        check.due(what, 1, want.equals(got) ? 1 : 0);
    }
}
