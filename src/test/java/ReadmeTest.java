import java.io.IOException;
import java.lang.reflect.Field;
import java.lang.reflect.Method;
import java.lang.reflect.Modifier;
import java.nio.file.Files;
import java.nio.file.Path;
import java.util.ArrayList;
import java.util.Arrays;
import java.util.List;
import java.util.Set;
import java.util.TreeSet;
import java.util.regex.Matcher;
import java.util.regex.Pattern;
import java.util.stream.Stream;

/** README.md is so: its examples answer as they say, and it names every call, constant and test as it is. */
public final class ReadmeTest {
    private static final Check CHECK = new Check("ReadmeTest");
    private static final Pattern BLOCK = Pattern.compile("(?s)```java\n(.*?)```");
    private static final Pattern CALL = Pattern.compile("x\\.(\\w+)\\(([-0-9, ]*)\\);\\s+// (-?\\d+|[A-Z]+)(?:, .*)?");
    private static final Pattern MADE = Pattern.compile("CausewayKept x = new CausewayKept\\(\\);(?:\\s+//.*)?");
    private static final Pattern FED =
        Pattern.compile("for \\(char c : \"([^\"]*)\"\\.toCharArray\\(\\)\\) x\\.feed\\(c\\);");
    private static final Pattern HEAD = Pattern.compile("(?m)^\\| `((?:int|long) \\w+\\([^`]*\\))` \\|");
    private static final Pattern CONSTANT = Pattern.compile("(?m)^\\| (-\\d+) \\| `([A-Z]+)` \\|");
    private static final Pattern TEST = Pattern.compile("(?m)^\\| (\\w+Test) \\|");

    private CausewayKept x;

    public static void main(String[] args) throws IOException, ReflectiveOperationException {
        Path page = Path.of(System.getProperty("causeway.readme", "README.md"));
        String readme = Files.readString(page);
        new ReadmeTest().examples(readme);
        heads(readme);
        constants(readme);
        tests(readme, page.resolveSibling("src/test/java"));
        CHECK.end();
    }

    private static void due(String what, long got, long want) {
        CHECK.due(what, got, want);
    }

    // ---- the examples

    private void examples(String readme) throws ReflectiveOperationException {
        Set<String> shown = new TreeSet<>();
        Matcher block = BLOCK.matcher(readme);
        while (block.find()) {
            x = null;
            for (String line : block.group(1).split("\n")) {
                example(line.trim(), shown);
            }
        }
        due("calls with an example", shown.size(), 28);
    }

    private void example(String line, Set<String> shown) throws ReflectiveOperationException {
        Matcher fed = FED.matcher(line);
        Matcher call = CALL.matcher(line);
        if (MADE.matcher(line).matches()) {
            x = new CausewayKept();
        } else if (fed.matches() && x != null) {
            Check.feed(x, fed.group(1));
        } else if (call.matches() && x != null) {
            due(line, answer(call.group(1), call.group(2)), number(call.group(3)));
            shown.add(call.group(1));
        } else {
            due("an example that can be tried: " + line, 0, 1);
        }
    }

    private long answer(String name, String arguments) throws ReflectiveOperationException {
        List<Object> values = new ArrayList<>();
        for (String argument : arguments.isBlank() ? new String[0] : arguments.split(", ")) {
            values.add(Integer.valueOf(argument));
        }
        Class<?>[] types = new Class<?>[values.size()];
        Arrays.fill(types, int.class);
        Method method = CausewayKept.class.getMethod(name, types);
        return ((Number) method.invoke(x, values.toArray())).longValue();
    }

    private static long number(String told) throws ReflectiveOperationException {
        return Character.isUpperCase(told.charAt(0)) ? CausewayKept.class.getField(told).getLong(null) : Long.parseLong(told);
    }

    // ---- what it names

    private static void heads(String readme) throws IOException {
        String source = Files.readString(
            Path.of(System.getProperty("causeway.source", "src/main/java/CausewayKept.java")));
        int told = 0;
        Matcher head = HEAD.matcher(readme);
        while (head.find()) {
            due("the class has " + head.group(1), source.contains("    public " + head.group(1) + " {") ? 1 : 0, 1);
            told++;
        }
        long made = Stream.of(CausewayKept.class.getDeclaredMethods()).filter(m -> Modifier.isPublic(m.getModifiers())).count();
        due("calls that are told", told, made);
        due("the constructor is told", readme.contains("| `CausewayKept()` |") ? 1 : 0, 1);
    }

    private static void constants(String readme) throws ReflectiveOperationException {
        Set<String> told = new TreeSet<>();
        Matcher constant = CONSTANT.matcher(readme);
        while (constant.find()) {
            Field field = CausewayKept.class.getField(constant.group(2));
            due(field.getName(), field.getLong(null), Long.parseLong(constant.group(1)));
            told.add(field.getName());
        }
        due("constants that are told", told.size(), CausewayKept.class.getFields().length);
    }

    private static void tests(String readme, Path folder) throws IOException {
        Set<String> told = new TreeSet<>();
        Matcher test = TEST.matcher(readme);
        while (test.find()) {
            told.add(test.group(1) + ".java");
        }
        Set<String> made = new TreeSet<>();
        try (Stream<Path> files = Files.list(folder)) {
            files.map(f -> f.getFileName().toString()).filter(f -> f.endsWith("Test.java")).forEach(made::add);
        }
        due("the tests that are told are those that run: " + told + " " + made, told.equals(made) ? 1 : 0, 1);
    }
}
