import java.util.function.ToLongFunction;

/** Images, STATUS, THE FRACTION, refusals: their terms and promises 33 to 38. */
final class ThereEdges {
    private final Edges e;

    ThereEdges(Edges e) {
        this.e = e;
    }

    void run() {
        images();
        status();
        fraction();
        counts();
    }

    // ---- images

    private void images() {
        e.terms("IMAGES 0, 1 keep all but them, THE TEXT, THE FRACTION and STATUS;", this::keepAllBut);
        e.terms("what may be undone they keep;", this::keepWhatMayBeUndone);
        e.terms("it goes on from one.", this::goesOn);
        e.promise(34, "An IMAGE is kept: 1.", () -> {
            for (int i = 0; i < 2; i++) {
                TruthOver x = Edges.full();
                e.due("image(" + i + ")", x.image(i), 1);
                e.due("image(" + i + ") again", x.image(i), 1);
                e.due("from(" + i + ")", x.from(i), 1);
                e.due("all else stays: digest()", x.digest(), Edges.full().digest());
            }
        });
        e.promise(34, "BAD.", () -> {
            e.range("image(..)", TruthOver::new, (x, n) -> x.image(n), 0, 1, -2);
            e.range("image(..)", Edges::full, (x, n) -> x.image(n), 0, 1, -2);
        });
        e.promise(35, "It goes on from an IMAGE: 1.", () -> {
            TruthOver x = Edges.rich();
            e.due("from(0)", x.from(0), 1);
            e.due("hour", x.count(2), 2);
            e.due("from(1)", x.from(1), 1);
            e.due("hour", x.count(2), 1);
            e.due("from(1) again", x.from(1), 1);
        });
        e.promise(35, "BAD;", () -> {
            e.range("from(..)", Edges::rich, (x, n) -> x.from(n), 0, 1, -2);
            e.refused("none was kept: from(2)", TruthOver::new, x -> x.from(2), -2, 0);
            e.refused("none was kept: from(-1)", TruthOver::new, x -> x.from(-1), -2, 0);
        });
        e.promise(35, "NO: none was kept.", () -> {
            e.refused("from(0)", TruthOver::new, x -> x.from(0), -3, 1);
            e.refused("from(1)", TruthOver::new, x -> x.from(1), -3, 1);
            e.refused("from(1), but 0 was", () -> kept(0), x -> x.from(1), -3, 1);
            e.refused("from(0), but 1 was", () -> kept(1), x -> x.from(0), -3, 1);
        });
    }

    private static TruthOver kept(int i) {
        TruthOver x = new TruthOver();
        x.image(i);
        return x;
    }

    private void keepAllBut() {
        for (int i = 0; i < 2; i++) {
            TruthOver x = Edges.full();
            long before = x.digest();
            e.due("THE FRACTION", x.part(0) * 100 + x.part(1), 710);
            x.image(i);
            x.valley(33);
            x.hours(9);
            x.player(5, 1, 9);
            x.hits(0);
            x.wind(1, 3);
            x.seen(0, 9, 0);
            x.note(9, 9, 1, 9);
            x.mark(0, 9, 9, 9);
            e.due("from(" + i + ")", x.from(i), 1);
            e.due("all is as it was: digest()", x.digest(), before);
            // The text, the fraction and STATUS go on; the other image is none of it.
            x.clear();
            x.gusts(1, 10);
            x.status(9);
            int bads = x.status(0);
            x.image(1 - i);
            x.from(i);
            e.due("THE TEXT is not kept: count(8)", x.count(8), 0);
            e.due("THE FRACTION is not kept", x.part(0) * 100 + x.part(1), 101);
            e.due("STATUS is not kept: status(0)", x.status(0), bads);
            e.due("the other image stays: from(" + (1 - i) + ")", x.from(1 - i), 1);
        }
    }

    private void keepWhatMayBeUndone() {
        for (int steps = 0; steps <= 9; steps++) {
            TruthOver x = new TruthOver();
            for (int i = 0; i < steps; i++) x.hours(2);
            x.image(0);
            x.wind(0, 0);
            for (int i = 0; i < 8; i++) x.cock(5, 9);
            x.from(0);
            e.due(steps + " steps: count(7)", x.count(7), Math.min(8, steps));
            for (int i = 1; i <= Math.min(8, steps); i++) e.due(steps + " steps: undo()", x.undo(), 2 * (steps - i));
            e.due(steps + " steps: undo(), no more", x.undo(), -3);
            x.from(0);
            e.due(steps + " steps, from it again: count(7)", x.count(7), Math.min(8, steps));
        }
    }

    private void goesOn() {
        TruthOver x = Due.of("valley 10;player 0 0 5;player 0 1 5;");
        x.hits(0);
        x.image(0);
        x.hits(1);
        x.from(0);
        e.due("hits(1)", x.hits(1), 1);
        e.cock("behind it", x, 0, 1, 0, 1, 2, 0);
        x.from(0);
        e.cock("the image is as it was kept", x, 0, 1, 1, 1, 1, 0);
        x.player(0, 0, 9);
        x.note(1, 1, 1, 1);
        x.from(0);
        e.due("what comes behind is not in it: count(0)", x.count(0), 2);
        e.due("what comes behind is not in it: count(5)", x.count(5), 0);
        e.due("undo()", x.undo(), 0);
        e.due("undo(), none is left", x.undo(), -3);
        x.from(0);
        e.due("nor what was undone: count(7)", x.count(7), 1);
    }

    // ---- STATUS and refusals

    private void status() {
        e.terms("STATUS: how many calls were refused as BAD, NO, FULL (each answer told so below is such a one).",
            this::howManyWereRefused);
        e.terms("Refused, changing nothing but STATUS, the first of: BAD -2 a number is not as told; NO -3 as told; FULL -4",
            this::firstOfThese);
        e.terms("(where others are told they count as these).", () -> {
            e.refused("wind(6, 0)", Edges::rich, x -> x.wind(6, 0), -10, 0);
            e.refused("now(7)", Edges::rich, x -> x.now(7), -10, 0);
            e.refused("rally(8, 0)", Edges::rich, x -> x.rally(8, 0), -10, 0);
            e.refused("place(3)", Edges::rich, x -> x.place(3), -10, 0);
            e.refused("status(3)", Edges::rich, x -> x.status(3), -1, 0);
        });
        e.promise(36, "STATUS: BAD (0), NO (1), FULL (2).", () -> {
            TruthOver x = new TruthOver();
            for (int i = 0; i < 3; i++) e.due("new: status(" + i + ")", x.status(i), 0);
            for (int i = 1; i <= 30; i++) {
                x.hours(0);
                if (i % 2 == 0) x.undo();
                e.due("status(0)", x.status(0), i);
                e.due("status(1)", x.status(1), i / 2);
                e.due("status(2)", x.status(2), 0);
            }
            for (int i = 0; i < 10; i++) x.player(0, 0, 1);
            e.due("status(2)", x.status(2), 3);
        });
        e.promise(36, "-1: another what (counts as BAD).", () -> {
            for (int what : new int[] {-1, 3, -2, 4, Integer.MIN_VALUE, Integer.MAX_VALUE}) {
                e.refused("status(" + what + ")", Edges::rich, x -> x.status(what), -1, 0);
            }
        });
    }

    private void howManyWereRefused() {
        // Answers below 0 that are no refusals: what was, a fault, no rally, not so many, none.
        TruthOver x = Due.of("valley 40;wind 0;player 0 0 9;");
        e.due("wind(0, 0)", x.wind(0, 0), -4);
        x.wind(0, -2);
        e.due("now(6)", x.now(6), -2);
        x.wind(0, -3);
        e.due("now(6)", x.now(6), -3);
        x.wind(0, -4);
        e.due("now(6)", x.now(6), -4);
        x.wind(0, -2);
        e.due("wind(0, -3)", x.wind(0, -3), -2);
        e.due("wind(0, -4)", x.wind(0, -4), -3);
        x.type('x');
        e.due("read()", x.read(), -40);
        e.due("rally(1, -2)", x.rally(1, -2), -6);
        e.due("rally(0, 0)", x.rally(0, 0), -5);
        x.seen(0, 0, 1);
        x.note(1, 0, 0, 99);
        x.mark(0, 1, 0, 30);
        e.due("heavy(1)", x.heavy(1), -1);
        e.due("tell(0)", x.tell(0), -1);
        e.due("look()", x.look(), -1);
        e.due("ask(0)", x.ask(0), -1);
        for (int i = 0; i < 3; i++) e.due("status(" + i + ")", x.status(i), 0);
        x = Due.of("valley 12;wind 0 0 0 0 0 8;player 0 0 5;");
        e.due("rally(1, 0), nobody", x.rally(1, 0), -1);
        for (int i = 0; i < 3; i++) e.due("status(" + i + ")", x.status(i), 0);
    }

    private void bad(String call, TruthOver x, ToLongFunction<TruthOver> asked, long answer) {
        int[] before = {x.status(0), x.status(1), x.status(2)};
        e.due(call, asked.applyAsLong(x), answer);
        e.due(call + ", then status(0)", x.status(0), before[0] + 1);
        e.due(call + ", then status(1)", x.status(1), before[1]);
        e.due(call + ", then status(2)", x.status(2), before[2]);
    }

    private void firstOfThese() {
        // BAD ahead of NO.
        bad("down: hits(3)", Edges.down(), x -> x.hits(3), -2);
        bad("hour 9999: hits(-1)", Edges.late(), x -> x.hits(-1), -2);
        bad("up: picks(2)", Edges.rich(), x -> x.picks(2), -2);
        bad("down: yours(0, 0)", Edges.down(), x -> x.yours(0, 0), -2);
        bad("down: yours(0, 3)", Edges.down(), x -> x.yours(0, 3), -2);
        bad("on the other hill: yours(1, 3)", Edges.rich(), x -> x.yours(1, 3), -2);
        bad("none was kept: from(2)", new TruthOver(), x -> x.from(2), -2);
        // BAD ahead of FULL.
        bad("full: player(6, 0, 1)", Edges.full(), x -> x.player(6, 0, 1), -2);
        bad("full: type(128)", Edges.full(), x -> x.type(128), -2);
        bad("full: seen(7, 0, 0)", Edges.full(), x -> x.seen(7, 0, 0), -2);
        bad("full: note(1, 0, 0, 100)", Edges.full(), x -> x.note(1, 0, 0, 100), -2);
        bad("full: mark(0, 10, 0, 0)", Edges.full(), x -> x.mark(0, 10, 0, 0), -2);
        // Two numbers that are not as told are one refusal.
        bad("note(0, -1, 5, 100)", Edges.full(), x -> x.note(0, -1, 5, 100), -2);
        bad("mark(-1, 0, 24, 31)", Edges.full(), x -> x.mark(-1, 0, 24, 31), -2);
        bad("rally(-1, -1)", Edges.full(), x -> x.rally(-1, -1), -10);
    }

    // ---- THE FRACTION

    private void fraction() {
        e.terms("THE FRACTION is 0 by 1 at first; lowest terms, below above 0.", () -> {
            TruthOver x = new TruthOver();
            e.due("new: part(0)", x.part(0), 0);
            e.due("new: part(1)", x.part(1), 1);
            x = Due.of("valley 10;player 0 0 5;player 0 0 9;player 0 0 1;");
            int[][] tenths = {{1, 1}, {9, 10}, {4, 5}, {7, 10}, {3, 5}, {1, 2}, {2, 5}, {3, 10}, {1, 5}, {1, 10}, {0, 1}};
            for (int c = 0; c <= 10; c++) {
                x.gusts(0, c);
                e.due("gusts(0, " + c + "), part(0)", x.part(0), tenths[c][0]);
                e.due("gusts(0, " + c + "), part(1)", x.part(1), tenths[c][1]);
                x.gusts(1, c);
                e.due("gusts(1, " + c + ")", x.part(0) * 100 + x.part(1), 101);
                x.gusts(2, c);
                e.due("gusts(2, " + c + ")", x.part(0) * 100 + x.part(1), 1);
            }
        });
        e.promise(33, "THE FRACTION: above (0), below (1).", () -> {
            TruthOver x = Due.of("valley 10;player 0 0 5;");
            x.gusts(0, 7);
            e.due("part(0)", x.part(0), 3);
            e.due("part(1)", x.part(1), 10);
        });
        e.promise(33, "BAD.", () -> {
            e.range("part(..)", TruthOver::new, (x, n) -> (int) x.part(n), 0, 1, -2);
            e.range("part(..)", Edges::rich, (x, n) -> (int) x.part(n), 0, 1, -2);
        });
    }

    // ---- how many

    private void counts() {
        e.promise(37, "How many: 0 PLAYERS, 1 of them on HILL 1, 2 the HOUR, 3 WIDE, 4 SEEN, 5 NOTES, 6 MARKS,"
            + " 7 that may be undone, 8 bytes of THE TEXT.", () -> {
                int[] none = {0, 0, 0, 10, 0, 0, 0, 0, 0};
                for (int i = 0; i < 9; i++) e.due("new: count(" + i + ")", new TruthOver().count(i), none[i]);
                int[] most = {7, 3, 32, 9, 5, 6, 6, 0, 150};
                for (int i = 0; i < 9; i++) e.due("full: count(" + i + ")", Edges.full().count(i), most[i]);
                int[] down = {3, 1, 33, 9, 1, 1, 1, 6, 59};
                for (int i = 0; i < 9; i++) e.due("down: count(" + i + ")", Edges.down().count(i), down[i]);
                int[] late = {3, 1, 9999, 9, 1, 1, 1, 8, 59};
                for (int i = 0; i < 9; i++) e.due("hour 9999: count(" + i + ")", Edges.late().count(i), late[i]);
            });
        e.promise(37, "BAD.", () -> {
            e.range("count(..)", TruthOver::new, (x, n) -> x.count(n), 0, 8, -2);
            e.range("count(..)", Edges::full, (x, n) -> x.count(n), 0, 8, -2);
        });
        e.promise(38, "h = 1663; then h = 31 h + v for each v: count(0) to count(8); now(0) to now(5);", () ->
            e.answered("new", TruthOver::new, TruthOver::digest,
                fold(0, 0, 0, 10, 0, 0, 0, 0, 0, 0, 1, 0, 1, 0, 0, 0, 0, 0, 0, 0, 0, 0, 1)));
        e.promise(38, "six WINDS (as they are, below 0, too);", () -> {
            TruthOver x = new TruthOver();
            int[] winds = {-4, -1, 0, 1, 4, -2};
            for (int h = 0; h < 6; h++) x.wind(h, winds[h]);
            e.due("digest()", x.digest(), fold(0, 0, 0, 10, 0, 0, 0, 0, 0, 0, 1, 0, 1, 0, 0, -4, -1, 0, 1, 4, -2, 0, 1));
        });
        e.promise(38, "of PLAYERS KIND, HILL, ARM; of SEEN p, h, over; of NOTES g, x, w, y; of MARKS p, b, t, x; THE FRACTION.",
            this::digestOfRows);
    }

    private void digestOfRows() {
        TruthOver x = new TruthOver();
        x.player(5, 1, 9);
        x.player(0, 0, 5);
        x.seen(1, 99, 0);
        x.seen(0, 0, 1);
        x.note(9, 30, -4, 99);
        x.note(1, 0, 4, 0);
        x.mark(1, 9, 23, 30);
        x.mark(0, 1, 0, 0);
        x.gusts(1, 7);
        long[] due = {2, 1, 0, 10, 2, 2, 2, 0, 0, 0, 1, 0, 1, 0, 0, 0, 0, 0, 0, 0, 0, 5, 1, 9, 0, 0, 5, 1, 99, 0, 0, 0, 1,
            9, 30, -4, 99, 1, 0, 4, 0, 1, 9, 23, 30, 0, 1, 0, 0, 3, 10};
        e.due("two of each", x.digest(), fold(due));
        x.forget(0);
        x.forget(1);
        x.forget(2);
        e.due("forgotten", x.digest(), fold(2, 1, 0, 10, 0, 0, 0, 0, 0, 0, 1, 0, 1, 0, 0, 0, 0, 0, 0, 0, 0,
            5, 1, 9, 0, 0, 5, 3, 10));
        x.status(9);
        x.image(0);
        e.due("STATUS and images are not in it", x.digest(), fold(2, 1, 0, 10, 0, 0, 0, 0, 0, 0, 1, 0, 1, 0, 0,
            0, 0, 0, 0, 0, 0, 5, 1, 9, 0, 0, 5, 3, 10));
    }

    private static long fold(long... all) {
        long h = 1663;
        for (long v : all) h = 31 * h + v;
        return h;
    }
}
