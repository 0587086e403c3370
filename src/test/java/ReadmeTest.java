import java.io.File;
import java.io.IOException;
import java.lang.reflect.Method;
import java.lang.reflect.Modifier;
import java.nio.file.Files;
import java.nio.file.Path;
import java.util.HashMap;
import java.util.Map;
import java.util.regex.Matcher;
import java.util.regex.Pattern;

/** README.md says how to use the class: its example answers so, and no call or test is left out. */
public final class ReadmeTest {
    private static final Pattern LINE =
        Pattern.compile("(?:int (\\w+) = )?x\\.(\\w+)\\(([^)]*)\\); +// (-?\\d+): .*");

    public static void main(String[] args) throws IOException, ReflectiveOperationException {
        Due due = new Due();
        Path page = Path.of(System.getProperty("truthover.readme", "README.md")).toAbsolutePath();
        String text = Files.readString(page);
        example(due, text);
        toldByText(due, text);
        for (Method m : TruthOver.class.getDeclaredMethods()) {
            if (Modifier.isPublic(m.getModifiers())) {
                due.holds(m.getName() + " is named", text.contains("`" + m.getName() + "`"));
            }
        }
        File[] tests = page.resolveSibling("src/test/java").toFile().listFiles((d, n) -> n.endsWith("Test.java"));
        due.holds("the tests were found", tests != null && tests.length > 0);
        for (File test : tests == null ? new File[0] : tests) {
            String name = test.getName().replace(".java", "");
            due.holds(name + " is named", text.contains("`" + name + "`"));
        }
        due.holds("how its tests are run", text.contains("\n.ci/run\n"));
        due.end();
    }

    private static void example(Due due, String text) throws ReflectiveOperationException {
        String[] lines = between(text, "```java\n", "```").split("\n");
        due.due("the example's first line is the new object", lines[0].indexOf("TruthOver x = new TruthOver();"), 0);
        TruthOver x = new TruthOver();
        Map<String, Integer> names = new HashMap<>();
        for (int i = 1; i < lines.length; i++) {
            Matcher m = LINE.matcher(lines[i]);
            boolean told = m.matches();
            due.holds("it tells its answer: " + lines[i], told);
            if (told) {
                long got = call(x, m.group(2), m.group(3), names);
                due.due(lines[i], got, Long.parseLong(m.group(4)));
                if (m.group(1) != null) names.put(m.group(1), (int) got);
            }
        }
        due.holds("the example has lines", lines.length > 5);
    }

    private static long call(TruthOver x, String name, String list, Map<String, Integer> names)
            throws ReflectiveOperationException {
        String[] words = list.isEmpty() ? new String[0] : list.split(", ");
        Object[] numbers = new Object[words.length];
        Class<?>[] kinds = new Class<?>[words.length];
        for (int i = 0; i < words.length; i++) {
            numbers[i] = names.containsKey(words[i]) ? names.get(words[i]) : Integer.valueOf(words[i]);
            kinds[i] = int.class;
        }
        return ((Number) TruthOver.class.getMethod(name, kinds).invoke(x, numbers)).longValue();
    }

    private static void toldByText(Due due, String text) {
        TruthOver x = new TruthOver();
        String told = between(text, "`type` each byte of\n`", "`");
        int items = Integer.parseInt(between(text, "there are (", ")"));
        due.due("read() of " + told, Due.read(x, told), items);
        due.due("its hour", x.count(2), 1);
        due.due("its wide", x.count(3), 14);
    }

    private static String between(String text, String open, String close) {
        int from = text.indexOf(open) + open.length();
        return text.substring(from, text.indexOf(close, from));
    }
}
