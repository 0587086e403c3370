import java.io.IOException;
import java.nio.file.Files;
import java.nio.file.Path;
import java.util.Map;
import java.util.TreeMap;
import java.util.function.Supplier;
import java.util.function.ToLongFunction;
import java.util.regex.Matcher;
import java.util.regex.Pattern;

/** Tests that each stand under the words of the document that they hold. */
final class Edges {
    static final int TERMS = 0;
    private static final int PROMISES = 38;

    /** A call with one number, all else of it given. */
    interface Call {
        long on(TruthOver x, int n);
    }

    private final Due due = new Due();
    private final Map<Integer, StringBuilder> sections = new TreeMap<>();
    private String under = "";

    Edges(Path document) throws IOException {
        if (!Files.exists(document)) {
            System.out.println("no document at " + document + ": what is quoted of it was not looked up");
            return;
        }
        String text = Files.readString(document).replaceAll("```\\w*", " ");
        sections.put(TERMS, section(text, "## Terms(.*?)Ahead of the calls `valley`"));
        for (int i = 1; i <= PROMISES; i++) {
            sections.put(i, section(text, "## Promise " + i + ":[^\n]*\n\\s*`[^`]*`:(.*?)(?=\n## |$)"));
        }
    }

    private static StringBuilder section(String text, String form) {
        Matcher m = Pattern.compile(form, Pattern.DOTALL).matcher(text);
        return new StringBuilder(m.find() ? m.group(1).replaceAll("\\s+", " ").trim() : "");
    }

    // ---- a test under its words

    void terms(String words, Runnable test) {
        promise(TERMS, words, test);
    }

    void promise(int number, String words, Runnable test) {
        under = (number == TERMS ? "Terms" : "Promise " + number) + ", \"" + words + "\": ";
        if (!sections.isEmpty()) {
            due.holds(under + "stands in the document", quote(sections.get(number), words));
        }
        test.run();
    }

    // Words that have a test are crossed out, so that at the end those are left that have none.
    private static boolean quote(StringBuilder section, String words) {
        int at = section.indexOf(words);
        for (int i = at; at >= 0 && i < at + words.length(); i++) section.setCharAt(i, '\0');
        return at >= 0;
    }

    /** Every word of the terms and of each promise has had its test. */
    void end() {
        sections.forEach((number, section) -> {
            String left = section.toString().replaceAll("[\\x00\\s;.,:]+", " ").trim();
            due.holds("words of " + (number == TERMS ? "the terms" : "promise " + number)
                + " that have no test: \"" + left + "\"", left.isEmpty());
        });
        due.end();
    }

    // ---- what is due

    void due(String call, long got, long want) {
        due.due(under + call, got, want);
    }

    /** The answers of now(0) to now(5): kind, weight, hill, up, kept, drops. */
    void cock(String when, TruthOver x, int... want) {
        for (int i = 0; i < want.length; i++) due(when + ", now(" + i + ")", x.now(i), want[i]);
    }

    /** Refused: the answer, one more of that reason (0 BAD, 1 NO, 2 FULL), and nothing else changed. */
    void refused(String call, Supplier<TruthOver> made, ToLongFunction<TruthOver> asked, long answer, int reason) {
        TruthOver x = made.get();
        int[] before = {x.status(0), x.status(1), x.status(2)};
        due(call, asked.applyAsLong(x), answer);
        for (int i = 0; i < 3; i++) {
            due(call + ", then status(" + i + ")", x.status(i), before[i] + (i == reason ? 1 : 0));
        }
        due(call + ", then all else", all(x), all(made.get()));
    }

    /** Answered, and nothing is changed by it, STATUS neither. */
    void answered(String call, Supplier<TruthOver> made, ToLongFunction<TruthOver> asked, long answer) {
        refused(call, made, asked, answer, -1);
    }

    /** From the least to the most it is taken, one beyond on either side is BAD. */
    void range(String call, Supplier<TruthOver> made, Call asked, int least, int most, int bad) {
        for (int n : new int[] {Integer.MIN_VALUE, least - 1, most + 1, Integer.MAX_VALUE}) {
            refused(call + " with " + n, made, x -> asked.on(x, n), bad, 0);
        }
        for (int n : new int[] {least, most}) {
            TruthOver x = made.get();
            int before = x.status(0);
            asked.on(x, n);
            due(call + " with " + n + " is taken: status(0)", x.status(0), before);
        }
    }

    /** All that can be seen of an object but STATUS, what may be undone and the images too; it is used up by this. */
    static long all(TruthOver x) {
        long h = undone(x, x.now(6));
        for (int i = 0; i < 2; i++) {
            h = undone(x, 31 * h + x.from(i));
        }
        return 31 * (31 * h + x.read()) + x.digest();
    }

    private static long undone(TruthOver x, long start) {
        long h = 31 * start + x.digest();
        for (int i = x.count(7); i > 0; i--) {
            h = 31 * (31 * h + x.undo()) + x.digest();
        }
        return h;
    }

    // ---- objects to begin with

    /** Players on both hills, things told of each kind, some to undo, two images, a text, a fraction. */
    static TruthOver rich() {
        TruthOver x = Due.of("valley 9;wind 5 2 7;player 0 0 6;player 5 1 4;player 1 0 9;");
        x.hits(0);
        x.image(1);
        x.hits(1);
        x.seen(1, 99, 1);
        x.note(3, 20, -4, 13);
        x.mark(2, 9, 23, 8);
        x.gusts(2, 3);
        x.image(0);
        x.cock(1, 2);
        x.hours(30);
        return x;
    }

    /** As rich, but it is down. */
    static TruthOver down() {
        TruthOver x = rich();
        x.cock(0, 9);
        x.hits(2);
        return x;
    }

    /** As rich, in hour 9999. */
    static TruthOver late() {
        TruthOver x = rich();
        for (int i = 0; i < 101; i++) x.hours(99);
        return x;
    }

    /** All rows are full: players, seen ones, notes, marks, the text. */
    static TruthOver full() {
        TruthOver x = rich();
        for (int i = 0; i < 4; i++) x.player(i, i % 2, 5);
        for (int i = 0; i < 4; i++) x.seen(i, i, 1);
        for (int i = 0; i < 5; i++) x.note(1, i, 0, i);
        for (int i = 0; i < 5; i++) x.mark(i, 1, i, 7);
        while (x.count(8) < 150) x.type(' ');
        return x;
    }
}
