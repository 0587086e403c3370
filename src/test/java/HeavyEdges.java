import java.math.BigInteger;
import java.util.Arrays;
import java.util.function.Supplier;

/** Weights, kinds, calls, gusts and centuries: the terms of these questions and promises 20 to 32. */
final class HeavyEdges {
    private final Edges e;

    HeavyEdges(Edges e) {
        this.e = e;
    }

    void run() {
        weights();
        kinds();
        calls();
        chances();
    }

    // ---- how heavy

    private void weights() {
        e.terms("SEEN 0 .. 4, as they come: a STROKE of a PLAYER in HOUR h (0 .. 99) came over (1) or fell short (0).",
            this::seenAsTheyCome);
        e.terms("HEAVY: WEIGHTS (1 .. 9) by which, THE COCK's KIND, WIDE, WIND, HILLS as they are, all SEEN are so:",
            this::weightsThatFit);
        e.terms("how many; the least; the greatest (NONE: none).", this::manyLeastGreatest);
        e.terms("TELL for a PLAYER: the HOUR (0 .. 23) by which, over or short, the greater part of these WEIGHTS is least;",
            this::theTellingHour);
        e.terms("of like ones the least; none: no WEIGHT.", this::noWeight);
        e.promise(20, "SEEN: how many there are.", () -> {
            TruthOver x = Edges.rich();
            for (int i = 2; i <= 5; i++) e.due("seen", x.seen(0, 0, 0), i);
            x.forget(0);
            e.due("seen, behind forget(0)", x.seen(0, 0, 0), 1);
        });
        e.promise(20, "BAD;", () -> {
            e.range("seen(.., 0, 0)", Edges::rich, (x, n) -> x.seen(n, 0, 0), 0, 2, -2);
            e.range("seen(0, .., 0)", Edges::rich, (x, n) -> x.seen(0, n, 0), 0, 99, -2);
            e.range("seen(0, 0, ..)", Edges::rich, (x, n) -> x.seen(0, 0, n), 0, 1, -2);
            e.refused("seen(0, 0, 0) of nobody", TruthOver::new, x -> x.seen(0, 0, 0), -2, 0);
        });
        e.promise(20, "FULL: 5.", () -> {
            e.refused("a sixth", Edges::full, x -> x.seen(0, 0, 0), -4, 2);
            e.refused("a sixth that is BAD", Edges::full, x -> x.seen(7, 0, 0), -2, 0);
            e.refused("a sixth that is BAD", Edges::full, x -> x.seen(0, 100, 0), -2, 0);
            e.refused("a sixth that is BAD", Edges::full, x -> x.seen(0, 0, 2), -2, 0);
        });
        e.promise(21, "HEAVY: how many (0), the least (1), the greatest (2).", () ->
            heavy("valley 10;player 0 0 9;", new int[][] {{0, 0, 1}}, 5, 1, 5));
        e.promise(21, "NONE.", () -> {
            for (int what = 1; what <= 2; what++) {
                int asked = what;
                e.answered("heavy(" + what + ")", HeavyEdges::noWeightFits, x -> x.heavy(asked), -1);
            }
            e.answered("heavy(0)", HeavyEdges::noWeightFits, x -> x.heavy(0), 0);
        });
        e.promise(21, "BAD.", () -> {
            e.range("heavy(..)", Edges::rich, (x, n) -> x.heavy(n), 0, 2, -2);
            e.range("heavy(..), no weight", HeavyEdges::noWeightFits, (x, n) -> x.heavy(n), 0, 2, -2);
        });
        e.promise(22, "TELL.", () -> e.answered("tell(0)", () -> Due.of("valley 11;player 5 0 1;"), x -> x.tell(0), 18));
        e.promise(22, "NONE.", () -> {
            for (int p = 0; p < 2; p++) {
                int told = p;
                e.answered("tell(" + p + ")", HeavyEdges::noWeightFits, x -> x.tell(told), -1);
            }
        });
        e.promise(22, "BAD.", () -> {
            e.range("tell(..)", Edges::rich, (x, n) -> x.tell(n), 0, 2, -2);
            e.range("tell(..), no weight", HeavyEdges::noWeightFits, (x, n) -> x.tell(n), 0, 1, -2);
            e.refused("tell(0) of nobody", TruthOver::new, x -> x.tell(0), -2, 0);
        });
    }

    private static TruthOver noWeightFits() {
        TruthOver x = Due.of("valley 10;player 0 0 9;player 5 1 9;");
        x.seen(0, 0, 1);
        x.seen(0, 0, 0);
        return x;
    }

    private void seenAsTheyCome() {
        TruthOver x = Due.of("valley 10;player 0 0 9;player 5 1 1;");
        e.due("new: count(4)", x.count(4), 0);
        for (int i = 1; i <= 5; i++) {
            e.due("seen, the " + i + "th", x.seen(i % 2, i == 1 ? 0 : 99, i % 2), i);
            e.due("count(4)", x.count(4), i);
        }
        e.due("a sixth", x.seen(0, 0, 0), -4);
        // Those of hour h have its wind and its hour of a day: a girl hits harder in hours 18, 42, 66 and 90.
        int[] weights = {0, 17, 2, 18, 6, 23, 6, 24, 2, 41, 2, 42, 6, 90, 6, 95, 6, 96, 2, 99, 2};
        for (int i = 1; i < weights.length; i += 2) {
            heavy("valley 10;player 5 0 1;", new int[][] {{0, weights[i], 1}}, weights[i + 1], 1, weights[i + 1]);
        }
        // 99 is hour 3 of the winds.
        heavy("valley 10;wind 4 4 4 7;player 0 0 4;", new int[][] {{0, 99, 1}}, 3, 1, 3);
        heavy("valley 10;wind 4 4 4 7;player 0 0 4;", new int[][] {{0, 99, 0}}, 6, 4, 9);
    }

    /** A text, what was seen then, and the weights that fit. */
    private void heavy(String text, int[][] seen, int... want) {
        for (int what = 0; what < 3; what++) {
            int asked = what;
            e.answered(text + " " + Arrays.deepToString(seen) + ": heavy(" + what + ")", () -> {
                TruthOver x = Due.of(text);
                for (int[] s : seen) x.seen(s[0], s[1], s[2]);
                return x;
            }, x -> x.heavy(asked), want[what]);
        }
    }

    private void weightsThatFit() {
        int[][] over = {{0, 0, 1}};
        // Hit by 11: as far as 11 less its weight, whatever it weighs now.
        heavy("valley 10;player 0 0 5;", over, 1, 1, 1);
        heavy("valley 10;cock 0 9;player 0 0 5;", over, 1, 1, 1);
        heavy("valley 2;player 0 0 5;", over, 9, 1, 9);
        heavy("valley 3;player 0 0 5;", over, 8, 1, 8);
        heavy("valley 10;wind 5;player 0 0 5;", over, 2, 1, 2);
        heavy("valley 10;wind 3;player 0 1 5;", over, 2, 1, 2);
        heavy("valley 10;cock 1 1;player 0 0 5;", over, 3, 1, 3);
        heavy("valley 5;cock 2 1;player 0 0 5;", over, 2, 1, 2);
        heavy("valley 12;cock 3 1;player 0 0 5;", over, 2, 1, 2);
        heavy("valley 10;cock 3 1;player 0 0 5;", over, 3, 1, 3);
        heavy("valley 5;cock 4 1;player 0 0 5;", over, 9, 1, 9);
        heavy("valley 6;cock 4 1;player 0 0 5;", over, 5, 1, 5);
        // A cork: 26 less three times its weight.
        heavy("valley 23;cock 5 1;player 0 0 5;", over, 1, 1, 1);
        heavy("valley 20;cock 5 1;player 0 0 5;", over, 2, 1, 2);
        heavy("valley 10;player 0 0 9;player 0 0 5;", new int[][] {{0, 0, 1}, {1, 0, 0}}, 4, 2, 5);
        // Rumours of 1 and 2 come over, of 3 and more do not: what fits need not be in a row.
        heavy("valley 10;cock 3 1;player 0 0 4;", new int[][] {{0, 0, 0}}, 7, 3, 9);
    }

    private void manyLeastGreatest() {
        e.answered("nothing was seen: heavy(0)", TruthOver::new, x -> x.heavy(0), 9);
        e.answered("nothing was seen: heavy(1)", TruthOver::new, x -> x.heavy(1), 1);
        e.answered("nothing was seen: heavy(2)", TruthOver::new, x -> x.heavy(2), 9);
        heavy("valley 10;player 0 0 9;", new int[][] {{0, 0, 0}}, 4, 6, 9);
        heavy("valley 10;player 0 0 4;", new int[][] {{0, 0, 1}}, 0, -1, -1);
        heavy("valley 10;player 0 0 9;", new int[][] {{0, 0, 1}, {0, 0, 0}}, 0, -1, -1);
        heavy("valley 6;player 0 0 9;", new int[][] {{0, 0, 1}}, 9, 1, 9);
        heavy("valley 7;player 0 0 9;", new int[][] {{0, 0, 0}}, 1, 9, 9);
        heavy("valley 6;player 0 0 9;", new int[][] {{0, 0, 0}}, 0, -1, -1);
    }

    private void tells(String text, int[][] seen, int p, int want) {
        e.answered(text + " " + Arrays.deepToString(seen) + ": tell(" + p + ")", () -> {
            TruthOver x = Due.of(text);
            for (int[] s : seen) x.seen(s[0], s[1], s[2]);
            return x;
        }, x -> x.tell(p), want);
    }

    private void theTellingHour() {
        int[][] none = {};
        // By night, with the wind of hour 5 of six: 16 and 4 less its weight is 16 or more for 4 of 9.
        tells("valley 16;wind 4 4 4 4 4 8;player 5 0 1;", none, 0, 23);
        tells("valley 16;wind 4 4 4 4 4 0;player 5 1 1;", none, 0, 23);
        tells("valley 16;wind 8;player 5 0 1;", none, 0, 18);
        // 4 over and 5 short are as good as 5 over and 4 short; the first of these hours is told.
        tells("valley 10;wind 4 7 8 7;player 0 0 5;", none, 0, 1);
        tells("valley 10;wind 4 8 7 8;player 0 0 5;", none, 0, 1);
        tells("valley 10;wind 4 6 7 8;player 0 0 5;", none, 0, 2);
        tells("valley 10;wind 4 6 7 8;player 0 0 4;player 0 0 6;", none, 1, 1);
        // 1 to 5 are left: 3 of them at most in one part.
        tells("valley 10;wind 4 0 1 2 3;player 0 0 9;", new int[][] {{0, 0, 1}}, 0, 2);
        tells("valley 10;wind 4 0 0 2 3;player 0 0 9;", new int[][] {{0, 0, 1}}, 0, 3);
        // The hour that it is now is not asked for.
        tells("valley 16;wind 8;player 5 0 1;hours 20;", none, 0, 18);
    }

    private void noWeight() {
        int[][] none = {};
        tells("valley 40;player 0 0 9;", none, 0, 0);
        tells("valley 1;player 2 0 9;", none, 0, 0);
        // One weight alone is left: all hours are alike.
        tells("valley 7;wind 4 4 8;player 0 0 9;", new int[][] {{0, 0, 0}}, 0, 0);
        tells("valley 10;player 0 0 4;", new int[][] {{0, 0, 1}}, 0, -1);
        e.answered("tell(1)", HeavyEdges::noWeightFits, x -> x.tell(1), -1);
    }

    // ---- what it is, what a player is

    private void kinds() {
        e.terms("NOTES 0 .. 5, as they come: a COCK of WEIGHT g (1 .. 9), hit by x (0 .. 30), HELPED by w (-4 .. 4), FLEW y (0 .. 99).",
            this::notesAsTheyCome);
        e.terms("IS: KINDS (bits) of COCKS by which all NOTES are so.", this::allNotes);
        e.terms("LOOK: 10 x and 4 more than w (x 0 .. 30, w -4 .. 4), its WEIGHT as it is, by which the most of these KINDS"
            + " that FLY as far are fewest;", this::nextLook);
        e.terms("of like ones the least; none: no KIND.", () -> {
            looks("one kind", 1, 0, new int[] {1, 2, 0, 3});
            looks("two that never are unlike", 3, 0, new int[] {3, 10, 0, 9});
            looks("no kind", 1, -1, new int[] {1, 0, 0, 99});
        });
        e.terms("MARKS 0 .. 5, as they come: a PLAYER with ARM b (1 .. 9) HIT it by x (0 .. 30) at hour t (0 .. 23).",
            this::marksAsTheyCome);
        e.terms("WHAT: KINDS of PLAYERS (bits) by which all MARKS of one are so.", this::allMarksOfOne);
        e.terms("ASK: the hour t by which, his ARM as it is, the most of these KINDS that HIT as hard are fewest;",
            this::nextHour);
        e.terms("of like ones the least; none: no KIND.", () -> {
            asks("one kind", 0, new int[] {0, 9, 23, 24});
            asks("no kind", -1, new int[] {0, 1, 0, 30});
        });
        notePromises();
        markPromises();
    }

    private void notePromises() {
        e.promise(23, "A NOTE: how many there are.", () -> {
            TruthOver x = Edges.rich();
            for (int i = 2; i <= 6; i++) e.due("note", x.note(1, 0, 0, 0), i);
            x.forget(1);
            e.due("note, behind forget(1)", x.note(1, 0, 0, 0), 1);
        });
        e.promise(23, "BAD;", () -> {
            e.range("note(.., 0, 0, 0)", Edges::rich, (x, n) -> x.note(n, 0, 0, 0), 1, 9, -2);
            e.range("note(1, .., 0, 0)", Edges::rich, (x, n) -> x.note(1, n, 0, 0), 0, 30, -2);
            e.range("note(1, 0, .., 0)", Edges::rich, (x, n) -> x.note(1, 0, n, 0), -4, 4, -2);
            e.range("note(1, 0, 0, ..)", Edges::rich, (x, n) -> x.note(1, 0, 0, n), 0, 99, -2);
        });
        e.promise(23, "FULL: 6.", () -> {
            e.refused("a seventh", Edges::full, x -> x.note(1, 0, 0, 0), -4, 2);
            e.refused("a seventh that is BAD", Edges::full, x -> x.note(0, 0, 0, 0), -2, 0);
            e.refused("a seventh that is BAD", Edges::full, x -> x.note(1, 31, 0, 0), -2, 0);
            e.refused("a seventh that is BAD", Edges::full, x -> x.note(1, 0, -5, 0), -2, 0);
            e.refused("a seventh that is BAD", Edges::full, x -> x.note(1, 0, 0, 100), -2, 0);
        });
        e.promise(25, "No SEEN ones (0), NOTES (1), MARKS (2): how many there were.", () -> {
            for (int what = 0; what < 3; what++) {
                TruthOver x = Edges.full();
                e.due("forget(" + what + ")", x.forget(what), what == 0 ? 5 : 6);
                for (int i = 4; i <= 6; i++) {
                    e.due("then count(" + i + ")", x.count(i), i == 4 + what ? 0 : i == 4 ? 5 : 6);
                }
                e.due("what may be undone stays: count(7)", x.count(7), Edges.full().count(7));
                e.due("forget(" + what + ") again", x.forget(what), 0);
                e.due("of none", new TruthOver().forget(what), 0);
            }
        });
        e.promise(25, "BAD.", () -> e.range("forget(..)", Edges::full, (x, n) -> x.forget(n), 0, 2, -2));
        e.promise(26, "IS, as bits.", () -> e.answered("is()", TruthOver::new, TruthOver::is, 63));
        e.promise(27, "LOOK.", () -> looks("all kinds", 1, 80));
        e.promise(27, "NONE.", () -> looks("no kind", 9, -1, new int[] {1, 0, 0, 99}));
    }

    private void markPromises() {
        e.promise(24, "A MARK: how many there are.", () -> {
            TruthOver x = Edges.rich();
            for (int i = 2; i <= 6; i++) e.due("mark", x.mark(0, 1, 0, 0), i);
            x.forget(2);
            e.due("mark, behind forget(2)", x.mark(0, 1, 0, 0), 1);
        });
        e.promise(24, "BAD;", () -> {
            e.range("mark(.., 1, 0, 0)", Edges::rich, (x, n) -> x.mark(n, 1, 0, 0), 0, 2, -2);
            e.range("mark(0, .., 0, 0)", Edges::rich, (x, n) -> x.mark(0, n, 0, 0), 1, 9, -2);
            e.range("mark(0, 1, .., 0)", Edges::rich, (x, n) -> x.mark(0, 1, n, 0), 0, 23, -2);
            e.range("mark(0, 1, 0, ..)", Edges::rich, (x, n) -> x.mark(0, 1, 0, n), 0, 30, -2);
            e.refused("mark(0, 1, 0, 0) of nobody", TruthOver::new, x -> x.mark(0, 1, 0, 0), -2, 0);
        });
        e.promise(24, "FULL: 6.", () -> {
            e.refused("a seventh", Edges::full, x -> x.mark(0, 1, 0, 0), -4, 2);
            e.refused("a seventh that is BAD", Edges::full, x -> x.mark(7, 1, 0, 0), -2, 0);
            e.refused("a seventh that is BAD", Edges::full, x -> x.mark(0, 0, 0, 0), -2, 0);
            e.refused("a seventh that is BAD", Edges::full, x -> x.mark(0, 1, 24, 0), -2, 0);
            e.refused("a seventh that is BAD", Edges::full, x -> x.mark(0, 1, 0, 31), -2, 0);
        });
        e.promise(28, "WHAT, as bits.", () -> e.answered("kinds(0)", Edges::rich, x -> x.kinds(0), 63));
        e.promise(28, "BAD.", () -> {
            e.range("kinds(..)", Edges::rich, (x, n) -> x.kinds(n), 0, 2, -2);
            e.refused("kinds(0) of nobody", TruthOver::new, x -> x.kinds(0), -2, 0);
            e.refused("kinds(7)", Edges::full, x -> x.kinds(7), -2, 0);
        });
        e.promise(29, "ASK.", () -> asks("hard or girl", 18, new int[] {0, 1, 0, 12}));
        e.promise(29, "NONE.", () -> asks("no kind", -1, new int[] {0, 1, 23, 7}, new int[] {0, 1, 23, 8}));
        e.promise(29, "BAD.", () -> {
            e.range("ask(..)", Edges::rich, (x, n) -> x.ask(n), 0, 2, -2);
            e.refused("ask(0) of nobody", TruthOver::new, x -> x.ask(0), -2, 0);
            e.refused("ask(7)", Edges::full, x -> x.ask(7), -2, 0);
        });
    }

    private void notesAsTheyCome() {
        TruthOver x = new TruthOver();
        e.due("new: count(5)", x.count(5), 0);
        int[][] notes = {{1, 0, -4, 0}, {9, 30, 4, 99}, {1, 30, -4, 0}, {9, 0, 4, 99}, {5, 5, 0, 5}, {1, 0, 0, 0}};
        for (int i = 0; i < 6; i++) {
            e.due("note, the " + (i + 1) + "th", x.note(notes[i][0], notes[i][1], notes[i][2], notes[i][3]), i + 1);
            e.due("count(5)", x.count(5), i + 1);
        }
        e.due("a seventh", x.note(1, 0, 0, 0), -4);
        e.due("count(5)", x.count(5), 6);
    }

    private Supplier<TruthOver> noted(int weight, int[]... notes) {
        return () -> {
            TruthOver x = new TruthOver();
            x.cock(0, weight);
            for (int[] n : notes) x.note(n[0], n[1], n[2], n[3]);
            return x;
        };
    }

    private void allNotes() {
        e.answered("no notes", noted(1), TruthOver::is, 63);
        e.answered("feather or oath", noted(1, new int[] {2, 12, 3, 13}), TruthOver::is, 17);
        e.answered("oath", noted(1, new int[] {2, 12, 3, 13}, new int[] {9, 11, -4, 5}), TruthOver::is, 16);
        e.answered("none", noted(1, new int[] {2, 12, 3, 13}, new int[] {2, 12, 3, 14}), TruthOver::is, 0);
        // The last of six is looked at as the first is.
        int[] all = {1, 1, 0, 0};
        int[] hen = {1, 1, 0, 2};
        e.answered("six alike", noted(1, all, all, all, all, all, all), TruthOver::is, 21);
        e.answered("the last is unlike", noted(1, all, all, all, all, all, hen), TruthOver::is, 0);
        e.answered("the first is unlike", noted(1, hen, all, all, all, all, all), TruthOver::is, 0);
        // Not of the cock that is: its weight and kind are none of it.
        e.answered("of weight 9", noted(9, new int[] {2, 12, 3, 15}), TruthOver::is, 2);
    }

    private void looks(String told, int weight, int want, int[]... notes) {
        e.answered(told + ", weight " + weight, noted(weight, notes), TruthOver::look, want);
    }

    private void nextLook() {
        looks("all kinds", 1, 80);
        looks("all kinds", 2, 62);
        looks("all kinds", 3, 18);
        // Feather or snow are unlike where a feather flies 2 or more: x and w are 2 more than its weight.
        int[] featherOrSnow = {1, 4, -2, 1};
        e.answered("feather or snow", noted(1, featherOrSnow), TruthOver::is, 5);
        looks("feather or snow: x 0, w 3", 1, 7, featherOrSnow);
        looks("feather or snow: x 0, w 4", 2, 8, featherOrSnow);
        looks("feather or snow: x 1, w 4", 3, 18, featherOrSnow);
        looks("feather or snow: x 7, w 4", 9, 78, featherOrSnow);
        // Feather or oath: where half of x is more.
        looks("feather or oath: x 2, w -4", 1, 20, new int[] {2, 12, 3, 13});
        // Hen or rumour are unlike by 1 or 2 only.
        looks("hen or rumour", 2, 0, new int[] {3, 10, 0, 9});
        looks("hen or rumour", 3, 0, new int[] {3, 10, 0, 9});
    }

    private void marksAsTheyCome() {
        TruthOver x = Due.of("valley 9;player 0 0 1;player 0 1 1;");
        e.due("new: count(6)", x.count(6), 0);
        int[][] marks = {{0, 1, 0, 0}, {1, 9, 23, 30}, {0, 9, 0, 30}, {1, 1, 23, 0}, {0, 5, 5, 5}, {1, 1, 0, 0}};
        for (int i = 0; i < 6; i++) {
            e.due("mark, the " + (i + 1) + "th", x.mark(marks[i][0], marks[i][1], marks[i][2], marks[i][3]), i + 1);
            e.due("count(6)", x.count(6), i + 1);
        }
        e.due("a seventh", x.mark(0, 1, 0, 0), -4);
        e.due("count(6)", x.count(6), 6);
    }

    private Supplier<TruthOver> marked(int arm, int[]... marks) {
        return () -> {
            TruthOver x = new TruthOver();
            x.player(2, 0, arm);
            x.player(3, 1, arm);
            for (int[] m : marks) x.mark(m[0], m[1], m[2], m[3]);
            return x;
        };
    }

    private void allMarksOfOne() {
        int[] plain = {0, 4, 1, 10};
        int[] other = {1, 4, 6, 5};
        e.answered("no marks: kinds(0)", marked(1), x -> x.kinds(0), 63);
        e.answered("plain or vicar: kinds(0)", marked(1, plain), x -> x.kinds(0), 17);
        e.answered("none of him: kinds(1)", marked(1, plain), x -> x.kinds(1), 63);
        e.answered("each his own: kinds(0)", marked(1, plain, other), x -> x.kinds(0), 17);
        e.answered("each his own: kinds(1)", marked(1, plain, other), x -> x.kinds(1), 10);
        e.answered("six, the last his: kinds(1)", marked(1, plain, plain, plain, plain, plain, other), x -> x.kinds(1), 10);
        e.answered("six, the first his: kinds(1)", marked(1, other, plain, plain, plain, plain, plain), x -> x.kinds(1), 10);
        e.answered("none is so: kinds(0)", marked(1, plain, new int[] {0, 4, 1, 11}), x -> x.kinds(0), 0);
        e.answered("vicar: kinds(0)", marked(1, plain, new int[] {0, 9, 21, 1}), x -> x.kinds(0), 16);
        // The arm of the mark counts, not his own.
        e.answered("arm 9: kinds(0)", marked(9, plain), x -> x.kinds(0), 17);
    }

    private void asks(String told, int want, int[]... marks) {
        e.answered(told, marked(4, marks), x -> x.ask(0), want);
    }

    private void nextHour() {
        asks("all kinds", 0);
        asks("hard or girl", 18, new int[] {0, 4, 17, 15});
        asks("plain or vicar", 0, new int[] {0, 4, 1, 10});
        asks("child or old", 0, new int[] {0, 4, 6, 5});
        asks("of another player", 0, new int[] {1, 4, 17, 15});
        // A look that ended with a feather flying 1, as hard as a vicar hits: the next question is apart from it.
        TruthOver looked = marked(4, new int[] {0, 4, 1, 10}).get();
        looked.cock(0, 3);
        looked.note(1, 2, 0, 3);
        looked.look();
        e.due("behind a look: ask(0)", looked.ask(0), 0);
        e.answered("of player 1", marked(4, new int[] {1, 1, 0, 12}), x -> x.ask(1), 18);
    }

    // ---- two who would each have the other strike

    private void calls() {
        String text = "valley 10;player 0 0 5;player 0 0 9;player 0 0 4;player 0 0 1;player 0 1 9;player 0 1 4;";
        e.terms("YOURS: PLAYERS a, b (unlike) on the HILL where it is UP (NO: it is DOWN, one is not there):", () -> {
            e.refused("alike", () -> Due.of(text), x -> x.yours(0, 0), -2, 0);
            e.refused("b is on the other hill", () -> Due.of(text), x -> x.yours(0, 4), -3, 1);
            e.refused("a is on the other hill", () -> Due.of(text), x -> x.yours(4, 0), -3, 1);
            e.refused("both are", () -> Due.of(text), x -> x.yours(4, 5), -3, 1);
            e.answered("on hill 1, both are there", () -> Due.of(text + "hit 0;"), x -> x.yours(4, 5), 2);
            e.refused("on hill 1, neither is", () -> Due.of(text + "hit 0;"), x -> x.yours(0, 1), -3, 1);
            e.refused("down", () -> Due.of(text + "hit 2;"), x -> x.yours(0, 1), -3, 1);
            e.answered("picked up", () -> Due.of(text + "hit 2;pick 0;"), x -> x.yours(0, 1), 6);
        });
        e.terms("each calls (1) or not (0): if one alone calls, he strikes now; if both do, or none does, nobody strikes:",
            () -> {
                // The wind of this hour counts: with it both carry it over.
                String windy = "valley 10;wind 5 3;player 0 0 4;player 0 0 4;";
                e.answered("hour 0", () -> Due.of(windy), x -> x.yours(0, 1), 6);
                e.answered("hour 1", () -> Due.of(windy + "hours 1;"), x -> x.yours(0, 1), 9);
            });
        e.terms("to each 3, if it is carried over by the other one, 2, if by him, -2, if it drops, -1, if nobody strikes;"
            + " 1 less to each who calls:", () -> {
                e.answered("both carry it", () -> Due.of(text), x -> x.yours(0, 1), 6);
                e.answered("a carries it, b falls short by one", () -> Due.of(text), x -> x.yours(0, 2), 2);
                e.answered("b carries it, a falls short by one", () -> Due.of(text), x -> x.yours(2, 0), 4);
            });
        // Where neither carries it, he who calls with the other one gets no more by not calling: -2 as before.
        e.terms("pairs that rest (bits: 0 none calls, 1 a, 2 b, 3 both; neither would get more by doing otherwise).", () ->
            e.answered("neither carries it", () -> Due.of(text), x -> x.yours(2, 3), 9));
        e.promise(30, "YOURS, as bits.", () -> {
            e.answered("yours(1, 0)", () -> Due.of(text), x -> x.yours(1, 0), 6);
            e.answered("yours(1, 2)", () -> Due.of(text), x -> x.yours(1, 2), 2);
            e.answered("yours(3, 1)", () -> Due.of(text), x -> x.yours(3, 1), 4);
        });
        e.promise(30, "BAD: alike, too;", () -> {
            e.range("yours(.., 0)", () -> onHillZero(3), (x, n) -> x.yours(n, 0), 1, 2, -2);
            e.range("yours(0, ..)", () -> onHillZero(3), (x, n) -> x.yours(0, n), 1, 2, -2);
            e.range("yours(.., 6)", () -> onHillZero(7), (x, n) -> x.yours(n, 6), 0, 5, -2);
            for (int p = 0; p < 3; p++) {
                int alike = p;
                e.refused("yours(" + p + ", " + p + ")", Edges::rich, x -> x.yours(alike, alike), -2, 0);
                e.refused("down: yours(" + p + ", " + p + ")", Edges::down, x -> x.yours(alike, alike), -2, 0);
            }
            e.refused("alike and not there: yours(9, 9)", Edges::down, x -> x.yours(9, 9), -2, 0);
            e.refused("down: yours(0, 3)", Edges::down, x -> x.yours(0, 3), -2, 0);
            e.refused("of nobody", TruthOver::new, x -> x.yours(0, 1), -2, 0);
        });
        e.promise(30, "NO.", () -> {
            e.refused("down: yours(0, 2)", Edges::down, x -> x.yours(0, 2), -3, 1);
            e.refused("one is not there: yours(0, 1)", Edges::rich, x -> x.yours(0, 1), -3, 1);
            e.refused("one is not there: yours(1, 2)", Edges::rich, x -> x.yours(1, 2), -3, 1);
        });
    }

    private static TruthOver onHillZero(int players) {
        TruthOver x = new TruthOver();
        for (int p = 0; p < players; p++) x.player(0, 0, 5);
        return x;
    }

    // ---- gusts, centuries

    private void chances() {
        e.terms("GUSTS: by c of 10 (0 .. 10) the WIND of this HOUR is 4 less than it is (-4 at least):", this::windOfAGust);
        e.terms("the chance that a PLAYER would carry it over from his HILL now, wherever it is: THE FRACTION.",
            this::chanceNow);
        e.promise(31, "GUSTS are THE FRACTION: 1.", () -> {
            gusts("valley 10;player 0 0 5;", 0, 1, 9, 10);
            TruthOver x = Edges.rich();
            long before = x.digest();
            x.gusts(0, 0);
            x.gusts(2, 3);
            e.due("nothing else is changed", x.digest(), before);
        });
        e.promise(31, "BAD.", () -> {
            e.range("gusts(.., 0)", Edges::rich, (x, n) -> x.gusts(n, 0), 0, 2, -2);
            e.range("gusts(0, ..)", Edges::rich, (x, n) -> x.gusts(0, n), 0, 10, -2);
            e.refused("gusts(0, 0) of nobody", TruthOver::new, x -> x.gusts(0, 0), -2, 0);
        });
        e.terms("CENTURIES by a SEED (0 .. 999999), n (0 .. 60) HOURS: X is SEED at first;", () -> {
            e.range("centuries(.., 0)", Edges::rich, (x, n) -> x.centuries(n, 0), 0, 999999, -2);
            e.range("centuries(0, ..)", Edges::rich, (x, n) -> x.centuries(0, n), 0, 60, -2);
            for (int seed : new int[] {0, 7, 999999}) {
                e.answered("centuries(" + seed + ", 0)", HeavyEdges::sevenKinds, x -> x.centuries(seed, 0), 0);
            }
            e.answered("centuries(0, 9)", HeavyEdges::sevenKinds, x -> x.centuries(0, 9), 2);
            e.answered("centuries(0, 60)", HeavyEdges::sevenKinds, x -> x.centuries(0, 60), 23);
            e.answered("centuries(7, 60)", HeavyEdges::sevenKinds, x -> x.centuries(7, 60), 15);
            e.answered("centuries(999999, 9)", HeavyEdges::sevenKinds, x -> x.centuries(999999, 9), 1);
            e.answered("centuries(999999, 60)", HeavyEdges::sevenKinds, x -> x.centuries(999999, 60), 27);
        });
        e.terms("in each HOUR X becomes X times 1103515245 and 12345, by 2147483648 what is left over;", this::whoIsCalled);
        e.terms("PLAYER X by 65536 (cut), by 7 left over, strikes, if he is there and can (else the HOUR goes by);",
            this::ifHeCan);
        e.terms("one that is DOWN is picked up on HILL X by 1048576 (cut), by 2 left over, ahead of that:", this::pickedUp);
        e.terms("how many STROKES are carried over in them.", () -> {
            e.answered("nobody there", TruthOver::new, x -> x.centuries(5, 60), 0);
            e.answered("all fall short", () -> Due.of("valley 40;" + "player 0 0 9;player 0 1 9;".repeat(3)),
                x -> x.centuries(5, 60), 0);
        });
        e.promise(32, "CENTURIES.", () -> {
            for (int n = 0; n <= 60; n++) {
                int hours = n;
                int want = strokesByHand(12345, n, alwaysCarried(), 0, true);
                e.answered("centuries(12345, " + n + ")", () -> Due.of(allCarry()), x -> x.centuries(12345, hours), want);
            }
        });
        e.promise(32, "BAD.", () -> {
            e.range("centuries(.., 60)", Edges::down, (x, n) -> x.centuries(n, 60), 0, 999999, -2);
            e.range("centuries(999999, ..)", Edges::down, (x, n) -> x.centuries(999999, n), 0, 60, -2);
        });
    }

    private void gusts(String text, int p, int c, int above, int below) {
        TruthOver x = Due.of(text);
        e.due(text + " gusts(" + p + ", " + c + ")", x.gusts(p, c), 1);
        e.due(text + " gusts(" + p + ", " + c + "), part(0)", x.part(0), above);
        e.due(text + " gusts(" + p + ", " + c + "), part(1)", x.part(1), below);
    }

    private void windOfAGust() {
        int[][] tenths = {{1, 1}, {9, 10}, {4, 5}, {7, 10}, {3, 5}, {1, 2}, {2, 5}, {3, 10}, {1, 5}, {1, 10}, {0, 1}};
        for (int c = 0; c <= 10; c++) gusts("valley 10;player 0 0 5;", 0, c, tenths[c][0], tenths[c][1]);
        // Hit by 15 it needs a wind of 0 or more: from 4 a gust takes it to 0, from 3 to -1.
        gusts("valley 14;wind 4;player 0 0 9;", 0, 4, 3, 5);
        gusts("valley 14;wind 8;player 0 0 9;", 0, 4, 1, 1);
        gusts("valley 14;wind 7;player 0 0 9;", 0, 4, 3, 5);
        // It is -4 at least: from 0, -1, -3 and -4 the wind goes to -4.
        gusts("valley 10;wind 4;player 0 0 9;", 0, 4, 1, 1);
        gusts("valley 10;wind 3;player 0 0 9;", 0, 4, 1, 1);
        gusts("valley 10;wind 1;player 0 0 9;", 0, 4, 1, 1);
        gusts("valley 10;wind 0;player 0 0 9;", 0, 4, 1, 1);
        gusts("valley 11;wind 3;player 0 0 9;", 0, 4, 3, 5);
        gusts("valley 11;wind 0;player 0 0 9;", 0, 4, 0, 1);
        // From hill 1 a gust helps: at -4 already, by nothing.
        gusts("valley 14;wind 4;player 0 1 5;", 0, 4, 2, 5);
        gusts("valley 14;wind 1;player 0 1 5;", 0, 4, 2, 5);
        gusts("valley 14;wind 0;player 0 1 5;", 0, 4, 1, 1);
        gusts("valley 15;wind 3;player 0 1 5;", 0, 4, 0, 1);
    }

    private void chanceNow() {
        String text = "valley 10;wind 4 0 4;player 0 0 5;player 0 1 1;player 0 0 1;";
        gusts(text, 0, 3, 7, 10);
        gusts(text + "hours 1;", 0, 3, 0, 1);
        gusts(text + "hours 6;", 0, 3, 7, 10);
        gusts(text, 1, 3, 3, 10);
        gusts(text + "hit 0;hours 1;", 0, 3, 7, 10);
        gusts(text + "hit 0;hours 1;", 1, 3, 3, 10);
        gusts(text + "hit 2;hours 1;", 0, 3, 7, 10);
        gusts(text, 2, 3, 0, 1);
    }

    private static TruthOver sevenKinds() {
        TruthOver x = new TruthOver();
        x.valley(14);
        int[] winds = {-4, 4, -2, 3, 0, 1};
        for (int h = 0; h < 6; h++) x.wind(h, winds[h]);
        x.cock(5, 2);
        int[][] players = {{5, 0, 9}, {4, 1, 9}, {3, 0, 1}, {2, 1, 2}, {1, 0, 9}, {0, 1, 9}, {0, 0, 1}};
        for (int[] p : players) x.player(p[0], p[1], p[2]);
        return x;
    }

    /** Players 0 to 3 on hill 0, 4 to 6 on hill 1; whoever strikes carries it over. */
    private static String allCarry() {
        return "valley 1;" + "player 2 0 9;".repeat(4) + "player 2 1 9;".repeat(3);
    }

    private static boolean[] alwaysCarried() {
        boolean[] all = new boolean[7];
        Arrays.fill(all, true);
        return all;
    }

    /** As the terms tell it, with numbers that never run over; players 0 to 3 are on hill 0. */
    private static int strokesByHand(int seed, int n, boolean[] carries, int firstHill, boolean up) {
        BigInteger x = BigInteger.valueOf(seed);
        int hill = firstHill;
        int over = 0;
        for (int i = 0; i < n; i++) {
            x = x.multiply(BigInteger.valueOf(1103515245)).add(BigInteger.valueOf(12345)).mod(BigInteger.valueOf(2147483648L));
            if (!up) hill = x.divide(BigInteger.valueOf(1048576)).mod(BigInteger.TWO).intValue();
            up = true;
            int p = x.divide(BigInteger.valueOf(65536)).mod(BigInteger.valueOf(7)).intValue();
            if ((p < 4 ? 0 : 1) != hill) continue;
            up = carries[p];
            if (up) {
                hill = 1 - hill;
                over++;
            }
        }
        return over;
    }

    private void whoIsCalled() {
        for (int seed : new int[] {0, 1, 2, 6, 7, 12345, 500000, 999998, 999999}) {
            int want = strokesByHand(seed, 60, alwaysCarried(), 0, true);
            e.answered("centuries(" + seed + ", 60)", () -> Due.of(allCarry()), x -> x.centuries(seed, 60), want);
        }
        // By seed 0 players 0, 6, 6, 4, 5, 1 are called.
        int[] over = {0, 1, 2, 2, 2, 2, 3};
        for (int n = 0; n < over.length; n++) {
            int hours = n;
            e.answered("centuries(0, " + n + ")", () -> Due.of(allCarry()), x -> x.centuries(0, hours), over[n]);
        }
    }

    private void ifHeCan() {
        // By seed 0 players 0, 6, 6, 4, 5, 1, 1 are called: 6 is not there; with 0 alone it stays on hill 1.
        String one = "valley 1;player 2 0 9;";
        e.answered("players that are not there", () -> Due.of(one), x -> x.centuries(0, 60), 1);
        String two = "valley 1;player 2 1 9;player 2 0 9;";
        e.answered("not on its hill: hours 0 to 4", () -> Due.of(two), x -> x.centuries(0, 5), 0);
        e.answered("on its hill in hour 5", () -> Due.of(two), x -> x.centuries(0, 6), 1);
        // The hours that go by are hours: hard ones with arm 9 come so far with the wind of hour 5 alone.
        String windy = "valley 23;wind 4 4 4 4 4 8;player 2 1 9;player 2 0 9;";
        e.answered("the wind of hour 5", () -> Due.of(windy), x -> x.centuries(0, 6), 1);
        e.answered("an hour on it is that of hour 0", () -> Due.of(windy + "hours 1;"), x -> x.centuries(0, 6), 0);
        e.answered("six hours on", () -> Due.of(windy + "hours 6;"), x -> x.centuries(0, 6), 1);
    }

    private void pickedUp() {
        boolean[] carries = {false, true, false, true, true, false, true};
        String text = "valley 10;player 0 0 4;player 0 0 5;player 0 0 4;player 0 0 5;player 0 1 5;player 0 1 4;player 0 1 5;";
        for (int seed : new int[] {0, 1, 2, 3, 999999}) {
            for (int n : new int[] {1, 2, 3, 10, 59, 60}) {
                int up = strokesByHand(seed, n, carries, 0, true);
                e.answered("up: centuries(" + seed + ", " + n + ")", () -> Due.of(text), x -> x.centuries(seed, n), up);
                int down = strokesByHand(seed, n, carries, 0, false);
                e.answered("down: centuries(" + seed + ", " + n + ")", () -> Due.of(text + "hit 0;"),
                    x -> x.centuries(seed, n), down);
            }
        }
        // X by 1048576 is just cut, or all but cut, to another number: picked up where who is called stands, or not.
        String allButOnce = "valley 12;" + "player 2 0 9;".repeat(4) + "player 2 1 9;".repeat(3) + "cock 0 9;hit 0;cock 0 1;";
        int[][] seeds = {{959, 1}, {1403, 0}, {241, 0}, {822, 1}};
        for (int[] s : seeds) {
            e.answered("just cut: centuries(" + s[0] + ", 1)", () -> Due.of(allButOnce), x -> x.centuries(s[0], 1), s[1]);
        }
    }
}
