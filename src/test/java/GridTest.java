import java.util.function.Consumer;

/** Every call with every mixture of numbers at, beside and far beyond their bounds, compared with the model. */
public final class GridTest {
    private static final int LOW = Integer.MIN_VALUE;
    private static final int HIGH = Integer.MAX_VALUE;
    private static final int[] FOUR = {LOW, -1, 0, 1, 2, 3, 4, HIGH};
    private static final int[] WHO = {LOW, -2, -1, 0, 1, 2, 3, 5, 6, 7, 8, HIGH};
    private static final int[] KIND = {LOW, -1, 0, 5, 6, HIGH};
    private static final int[] HILL = {LOW, -1, 0, 1, 2, HIGH};
    private static final int[] NINE = {LOW, -1, 0, 1, 9, 10, HIGH};
    private static final int[] WIND = {LOW, -5, -4, 0, 4, 5, HIGH};
    private static final int[] BLOW = {LOW, -1, 0, 9, 30, 31, HIGH};
    private static final int[] NINETY = {LOW, -1, 0, 1, 98, 99, 100, HIGH};

    private final Due due = new Due();

    public static void main(String[] args) {
        GridTest all = new GridTest();
        all.from("new", p -> { });
        all.from("told", GridTest::told);
        all.from("down", GridTest::down);
        all.from("late", GridTest::late);
        all.from("full", GridTest::full);
        all.due.end();
    }

    private void from(String state, Consumer<Pair> built) {
        each(state, built, "valley", new int[] {LOW, -1, 0, 1, 2, 39, 40, 41, HIGH});
        each(state, built, "wind", new int[] {LOW, -1, 0, 5, 6, HIGH}, WIND);
        each(state, built, "player", KIND, HILL, NINE);
        each(state, built, "type", new int[] {LOW, -1, 0, 32, 127, 128, HIGH});
        for (String name : new String[] {"clear", "read", "undo", "may", "lasts", "is", "look"}) each(state, built, name);
        for (String name : new String[] {"hits", "place", "tell", "kinds", "ask"}) each(state, built, name, WHO);
        for (String name : new String[] {"picks", "part", "image", "from"}) each(state, built, name, HILL);
        for (String name : new String[] {"heavy", "forget", "status"}) each(state, built, name, FOUR);
        each(state, built, "cock", KIND, NINE);
        each(state, built, "hours", NINETY);
        each(state, built, "now", WHO);
        each(state, built, "count", new int[] {LOW, -1, 0, 1, 2, 3, 4, 5, 6, 7, 8, 9, HIGH});
        each(state, built, "of", WHO, FOUR);
        each(state, built, "reach", WHO, new int[] {LOW, -1, 0, 1, 46, 47, 48, HIGH});
        each(state, built, "rally", new int[] {LOW, -1, 0, 1, 2, 5, 7, 8, 64, 127, 128, 255, 256, HIGH},
            new int[] {LOW, -3, -2, -1, 0, 1, 2, 3, 18, 19, 20, 21, HIGH});
        each(state, built, "seen", WHO, NINETY, HILL);
        each(state, built, "note", NINE, BLOW, WIND, NINETY);
        each(state, built, "mark", new int[] {LOW, -1, 0, 2, 3, 6, 7, HIGH}, NINE, new int[] {LOW, -1, 0, 23, 24, HIGH}, BLOW);
        each(state, built, "yours", WHO, WHO);
        each(state, built, "gusts", WHO, new int[] {LOW, -1, 0, 1, 5, 9, 10, 11, HIGH});
        each(state, built, "centuries", new int[] {LOW, -1, 0, 1, 999998, 999999, 1000000, HIGH},
            new int[] {LOW, -1, 0, 1, 59, 60, 61, HIGH});
    }

    /** One pair for all numbers of a call: what a call changes is put back by image 1. */
    private void each(String state, Consumer<Pair> built, String name, int[]... values) {
        Pair pair = new Pair(state, due);
        built.accept(pair);
        pair.call("image", 1);
        int[] at = new int[values.length];
        boolean more = true;
        while (more) {
            int[] a = new int[values.length];
            for (int i = 0; i < a.length; i++) a[i] = values[i][at[i]];
            pair.call(name, a);
            if (!name.equals("image")) pair.call("from", 1);
            more = false;
            for (int i = 0; i < at.length && !more; i++) {
                at[i] = (at[i] + 1) % values[i].length;
                more = at[i] != 0;
            }
        }
        for (int i = 0; i < 3; i++) pair.call("status", i);
    }

    // ---- what it begins with

    private static void told(Pair p) {
        p.call("valley", 11);
        int[] winds = {2, -1, 4, -4, 0, 3};
        for (int h = 0; h < 6; h++) p.call("wind", h, winds[h]);
        p.call("player", 0, 0, 9);
        p.call("player", 5, 1, 3);
        p.call("player", 4, 0, 8);
        p.call("cock", 1, 2);
        p.call("hours", 17);
        p.call("hits", 0);
        p.call("seen", 0, 3, 1);
        p.call("note", 3, 10, 0, 9);
        p.call("mark", 1, 2, 3, 13);
        p.call("gusts", 2, 4);
        p.call("image", 0);
        for (char c : "valley 9;player 1 0 9;hit 0;".toCharArray()) p.call("type", c);
    }

    private static void down(Pair p) {
        told(p);
        p.call("cock", 2, 9);
        p.call("hits", 1);
    }

    private static void late(Pair p) {
        told(p);
        for (int i = 0; i < 101; i++) p.call("hours", 99);
    }

    private static void full(Pair p) {
        told(p);
        for (int i = 0; i < 4; i++) p.call("player", i + 1, i % 2, 9 - i);
        for (int i = 0; i < 4; i++) p.call("seen", i, 24 * i, i % 2);
        for (int i = 0; i < 5; i++) p.call("note", 3, 10 + i, 0, 9 + i);
        for (int i = 0; i < 5; i++) p.call("mark", i, 2, i, 13);
        for (int i = 0; i < 9; i++) p.call("cock", i % 6, 1 + i % 9);
        while (p.x.count(8) < 150) p.call("type", ' ');
    }
}
