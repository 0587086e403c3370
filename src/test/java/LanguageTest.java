import java.io.IOException;
import java.nio.file.Files;
import java.nio.file.Path;
import java.util.regex.Matcher;
import java.util.regex.Pattern;

/** The rules of LANGUAGE.md that a look at the text can tell. */
public final class LanguageTest {
    private static final String[] NEVER = {
        "\\bthrows?\\b", "\\btry\\b", "\\bcatch\\b", "\\bfinally\\b", "\\bsynchronized\\b", "\\bassert\\b", "->", "::",
        "Exact\\b", "\\bpackage\\b", "\\bprotected\\b", "\\bRandom\\b", "\\bThread\\b", "\\bnanoTime\\b",
        "\\bcurrentTimeMillis\\b", "\\bSystem\\.(?!arraycopy\\b)", "\\bnull\\b", "\\bhashCode\\b", "\\btoString\\b",
        "\\bstatic\\s*\\{", "\\bdouble\\b", "\\bfloat\\b", "\"\\s*\\+", "\\+\\s*\"", "[^\\x00-\\x7F]"};

    public static void main(String[] args) throws IOException {
        Due due = new Due();
        Path file = Path.of(System.getProperty("truthover.source", "src/main/java/TruthOver.java"));
        String source = Files.readString(file);
        String code = source.replaceAll("(?s)/\\*.*?\\*/", "").replaceAll("//[^\n]*", "");
        for (String never : NEVER) {
            due.holds("no " + never, !Pattern.compile(never).matcher(code).find());
        }
        due.holds("java.util.Arrays alone is imported",
            code.replaceFirst("import java\\.util\\.Arrays;", "").indexOf("import") < 0);
        due.holds("at most twelve classes", many(code, "\\bclass\\b") <= 12);
        due.holds("every static field is final", !Pattern.compile("static (?!final)[\\w\\[\\]]+ \\w+( =|;)").matcher(code).find());
        shortMethods(due, code);
        due.end();
    }

    private static int many(String code, String what) {
        Matcher m = Pattern.compile(what).matcher(code);
        int many = 0;
        while (m.find()) many++;
        return many;
    }

    private static void shortMethods(Due due, String code) {
        Matcher m = Pattern.compile("\n( +)(?:[\\w\\[\\]]+ )+(\\w+)\\(([^)]*)\\) \\{\n(?s:.*?)\n\\1\\}").matcher(code);
        int methods = 0;
        while (m.find()) {
            methods++;
            due.holds(m.group(2) + " is short", m.group().lines().count() <= 60);
            due.holds(m.group(2) + " takes seven at most", m.group(3).split(",").length <= 7);
        }
        due.holds("the methods were found", methods > 100);
    }
}
