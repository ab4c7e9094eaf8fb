import java.io.IOException;
import java.lang.reflect.Method;
import java.nio.file.Files;
import java.nio.file.Path;
import java.util.Arrays;
import java.util.Set;
import java.util.TreeSet;
import java.util.regex.Matcher;
import java.util.regex.Pattern;
import java.util.stream.Collectors;
import java.util.stream.Stream;

/** What README.md says is so: each call of its examples answers what stands behind it, and its table names each test. */
public final class ReadmeTest {
    private static final Due due = new Due("ReadmeTest");
    private static final Pattern CALL = Pattern.compile("x\\.(\\w+)\\(([^)]*)\\); *// (-?\\w+)(: .*)?");

    public static void main(String[] args) throws IOException, ReflectiveOperationException {
        String readme = Files.readString(Path.of("README.md"));
        examples(readme);
        tests(readme);
        answers(readme);
        due.end();
    }

    private static void examples(String readme) throws ReflectiveOperationException {
        Matcher blocks = Pattern.compile("(?s)```java\n(.*?)```").matcher(readme);
        TwoBells x = null;
        int calls = 0;
        while (blocks.find()) {
            for (String line : blocks.group(1).split("\n")) {
                Matcher call = CALL.matcher(line);
                if (line.equals("TwoBells x = new TwoBells();")) {
                    x = new TwoBells();
                    calls = 0;
                } else if (x == null || !call.matches()) {
                    due.holds("a call with its answer, behind a new object: " + line, false);
                } else {
                    calls++;
                    due.is("call " + calls + ", " + call.group(1) + "(" + call.group(2) + ")", number(call.group(3)), made(x, call));
                }
            }
        }
        due.holds("there are examples, of at most 512 calls", calls > 0 && calls <= 512);
    }

    private static int made(TwoBells x, Matcher call) throws ReflectiveOperationException {
        String[] words = call.group(2).isEmpty() ? new String[0] : call.group(2).split(", ");
        Class<?>[] ints = new Class<?>[words.length];
        Arrays.fill(ints, int.class);
        Object[] with = new Object[words.length];
        for (int i = 0; i < words.length; i++) {
            with[i] = number(words[i]);
        }
        Method m = TwoBells.class.getMethod(call.group(1), ints);
        return (Integer) m.invoke(x, with);
    }

    private static int number(String word) throws ReflectiveOperationException {
        if (word.startsWith("0x")) {
            return Integer.parseUnsignedInt(word.substring(2), 16);
        }
        String name = word.replace("TwoBells.", "");
        return name.matches("[A-Z]+") ? TwoBells.class.getField(name).getInt(null) : Integer.parseInt(name);
    }

    /** The tests that there are, and those that the table names, are the same. */
    private static void tests(String readme) throws IOException {
        Set<String> there;
        try (Stream<Path> files = Files.list(Path.of("src/test/java"))) {
            there = files.map(f -> f.getFileName().toString()).filter(f -> f.endsWith("Test.java"))
                .map(f -> f.replace(".java", "")).collect(Collectors.toCollection(TreeSet::new));
        }
        Set<String> named = new TreeSet<>();
        Matcher rows = Pattern.compile("(?m)^\\| ([\\w, ]*Test) \\|").matcher(readme);
        while (rows.find()) {
            named.addAll(Arrays.asList(rows.group(1).split(", ")));
        }
        due.holds("the tests are " + there + ", named are " + named, there.equals(named));
        due.holds("how to run them", readme.contains("```\n.ci/run\n```") && Files.isExecutable(Path.of(".ci/run")));
    }

    /** Each constant of the face is told in the table of answers. */
    private static void answers(String readme) {
        for (java.lang.reflect.Field f : TwoBells.class.getFields()) {
            due.holds("README tells of " + f.getName(), Pattern.compile("(?m)^\\| .*`" + f.getName() + "`.* \\|").matcher(readme).find());
        }
    }
}
