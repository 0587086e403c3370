/** Promises 1 to 14: a valley, its text, strokes. */
final class ValleyEdges {
    private final Edges e;

    ValleyEdges(Edges e) {
        this.e = e;
    }

    void run() {
        aValley();
        aText();
        strokes();
        hoursAndUndo();
        whatIsSeen();
    }

    // ---- a valley

    private void aValley() {
        e.promise(1, "As told;", () -> asAtFirst("new", new TruthOver(), 10, 0));
        e.promise(1, "no PLAYERS.", () -> {
            e.due("count(0)", new TruthOver().count(0), 0);
            e.due("count(1)", new TruthOver().count(1), 0);
            e.refused("of(0, 0)", TruthOver::new, x -> x.of(0, 0), -2, 0);
        });
        e.promise(2, "WIDE; all else as at first (but for IMAGES, THE TEXT, THE FRACTION, STATUS):", this::allElseAsAtFirst);
        e.promise(2, "how many PLAYERS there were.", () -> {
            for (int players = 0; players <= 7; players++) {
                TruthOver x = new TruthOver();
                for (int p = 0; p < players; p++) x.player(0, 0, 1);
                e.due("valley(10) of " + players, x.valley(10), players);
                e.due("valley(10) again", x.valley(10), 0);
            }
        });
        e.promise(2, "BAD.", () -> {
            e.range("valley(..)", TruthOver::new, (x, n) -> x.valley(n), 1, 40, -2);
            e.range("valley(..)", Edges::full, (x, n) -> x.valley(n), 1, 40, -2);
        });
        e.promise(3, "WIND of an hour (0 .. 5):", () -> {
            e.range("wind(.., 0)", Edges::rich, (x, n) -> x.wind(n, 0), 0, 5, -10);
            for (int h = 0; h < 6; h++) {
                TruthOver x = new TruthOver();
                x.wind(h, 3);
                for (int i = 0; i < 6; i++) e.due("wind(" + h + ", 3), then wind(" + i + ", 0)", x.wind(i, 0), i == h ? 3 : 0);
            }
        });
        e.promise(3, "what it was (-4 .. 4).", () -> {
            TruthOver x = new TruthOver();
            int was = 0;
            for (int w : new int[] {-4, 4, -1, 1, 0, -4, -4, 4, 4, 0}) {
                e.due("wind(2, " + w + ")", x.wind(2, w), was);
                was = w;
            }
        });
        e.promise(3, "BAD: -10.", () -> {
            for (int h : new int[] {-1, 6, Integer.MIN_VALUE, Integer.MAX_VALUE}) {
                e.refused("wind(" + h + ", 5)", Edges::rich, x -> x.wind(h, 5), -10, 0);
                e.refused("wind(" + h + ", 4)", Edges::rich, x -> x.wind(h, 4), -10, 0);
            }
            e.range("wind(3, ..)", Edges::rich, (x, n) -> x.wind(3, n), -4, 4, -10);
        });
        e.promise(4, "A PLAYER: the number.", () -> {
            TruthOver x = new TruthOver();
            for (int p = 0; p < 7; p++) e.due("player", x.player(5, 1, 9), p);
            x.valley(10);
            e.due("player, in a new valley", x.player(5, 1, 9), 0);
        });
        e.promise(4, "BAD;", () -> {
            e.range("player(.., 0, 1)", Edges::rich, (x, n) -> x.player(n, 0, 1), 0, 5, -2);
            e.range("player(0, .., 1)", Edges::rich, (x, n) -> x.player(0, n, 1), 0, 1, -2);
            e.range("player(0, 0, ..)", Edges::rich, (x, n) -> x.player(0, 0, n), 1, 9, -2);
        });
        e.promise(4, "FULL: 7.", () -> {
            e.refused("an eighth", Edges::full, x -> x.player(0, 0, 1), -4, 2);
            e.refused("an eighth that is BAD", Edges::full, x -> x.player(6, 0, 1), -2, 0);
            e.refused("an eighth that is BAD", Edges::full, x -> x.player(0, 2, 1), -2, 0);
            e.refused("an eighth that is BAD", Edges::full, x -> x.player(0, 0, 0), -2, 0);
        });
    }

    private void asAtFirst(String when, TruthOver x, int wide, int bytes) {
        int[] counts = {0, 0, 0, wide, 0, 0, 0, 0, bytes};
        for (int i = 0; i < counts.length; i++) e.due(when + ", count(" + i + ")", x.count(i), counts[i]);
        e.cock(when, x, 0, 1, 0, 1, 0, 0);
        e.due(when + ", now(6)", x.now(6), 0);
        e.due(when + ", heavy(0)", x.heavy(0), 9);
        e.due(when + ", is()", x.is(), 63);
        e.due(when + ", undo()", x.undo(), -3);
        for (int h = 0; h < 6; h++) e.due(when + ", wind(" + h + ", 0)", x.wind(h, 0), 0);
    }

    private void allElseAsAtFirst() {
        TruthOver x = Edges.full();
        x.status(9);
        x.undo();
        int[] status = {x.status(0), x.status(1), x.status(2)};
        long[] fraction = {x.part(0), x.part(1)};
        x.valley(40);
        for (int i = 0; i < 3; i++) e.due("status(" + i + ") stays", x.status(i), status[i]);
        for (int i = 0; i < 2; i++) e.due("part(" + i + ") stays", x.part(i), fraction[i]);
        asAtFirst("valley(40)", x, 40, 150);
        TruthOver y = Edges.rich();
        for (int i = 0; i < 2; i++) {
            e.due("from(" + i + ")", x.from(i), 1);
            y.from(i);
            for (int what = 0; what < 8; what++) e.due("IMAGE " + i + " stays: count(" + what + ")", x.count(what), y.count(what));
        }
        e.due("THE TEXT stays: read()", x.read(), 5);
        x = Edges.down();
        x.valley(1);
        asAtFirst("valley(1) while it is down", x, 1, x.count(8));
        x = Edges.late();
        x.valley(1);
        asAtFirst("valley(1) in hour 9999", x, 1, x.count(8));
    }

    // ---- a text

    private void aText() {
        e.promise(5, "A byte (0 .. 127) comes behind THE TEXT: how many it has.", () -> {
            TruthOver x = new TruthOver();
            for (int c = 0; c <= 127; c++) e.due("type(" + c + ")", x.type(c), c + 1);
            e.due("count(8)", x.count(8), 128);
            TruthOver y = Due.typed(new TruthOver(), "valley 1");
            e.due("ahead of it: read()", y.read(), -18);
            y.type('2');
            y.type(';');
            e.due("behind it: read()", y.read(), 1);
            e.due("behind it: count(3)", y.count(3), 12);
        });
        e.promise(5, "BAD;", () -> e.range("type(..)", Edges::rich, (x, n) -> x.type(n), 0, 127, -2));
        e.promise(5, "FULL.", () -> {
            e.refused("a 151st", Edges::full, x -> x.type(' '), -4, 2);
            e.refused("a 151st that is BAD", Edges::full, x -> x.type(128), -2, 0);
            e.refused("a 151st that is BAD", Edges::full, x -> x.type(-1), -2, 0);
            TruthOver x = new TruthOver();
            for (int i = 1; i <= 150; i++) e.due("type, the " + i + "th", x.type('x'), i);
            e.due("type, the 151st", x.type('x'), -4);
        });
        e.promise(6, "THE TEXT is empty: how many it had.", () -> {
            for (int bytes : new int[] {0, 1, 149, 150}) {
                TruthOver x = new TruthOver();
                for (int i = 0; i < bytes; i++) x.type(';');
                e.due("clear() of " + bytes, x.clear(), bytes);
                e.due("count(8)", x.count(8), 0);
                e.due("clear() again", x.clear(), 0);
                e.due("read()", x.read(), -10);
                e.due("type(32)", x.type(32), 1);
            }
            TruthOver x = Edges.rich();
            x.clear();
            for (char c : "valley 9;wind 5 2 7;player 0 0 6;player 5 1 4;player 1 0 9;".toCharArray()) x.type(c);
            e.due("all else stays", Edges.all(x), Edges.all(Edges.rich()));
        });
        e.promise(7, "THE VALLEY is read: how many ITEMS.", () -> {
            String text = "valley 9;";
            for (int items = 1; items <= 15; items++) {
                e.due("read() of " + items, Due.read(new TruthOver(), text), items);
                text += "hours 99;";
            }
            e.due("as many as there may be", Due.read(new TruthOver(), "valley 9;" + "wind8;".repeat(23)), 24);
        });
        e.promise(7, "-10 less the FAULT: all stays.", () -> {
            String[] texts = {"", "x", "valley 9", "valley 9;cock 0 1;player 0 0 9;hit 0;hours 9;wind 1 2 3;valley"};
            int[] answers = {-10, -10, -18, -66};
            for (int i = 0; i < texts.length; i++) {
                String text = texts[i];
                e.answered("\"" + text + "\"", () -> Due.typed(Edges.rich(), text), TruthOver::read, answers[i]);
                e.answered("down, \"" + text + "\"", () -> Due.typed(Edges.down(), text), TruthOver::read, answers[i]);
            }
            e.answered("a fault at the last byte", () -> Due.typed(Edges.rich(), "valley 9;" + " ".repeat(140) + ";"),
                TruthOver::read, -159);
            e.answered("150 bytes, none of it read", () -> Due.typed(Edges.rich(), " ".repeat(150)), TruthOver::read, -160);
        });
    }

    // ---- strokes

    private void strokes() {
        e.promise(8, "A STROKE: 1 it is over, 0 DOWN.", () -> {
            e.due("wide 10: hits(0)", Due.of("valley 10;player 0 0 5;").hits(0), 1);
            e.due("wide 11: hits(0)", Due.of("valley 11;player 0 0 5;").hits(0), 0);
            e.due("wide 9: hits(0)", Due.of("valley 9;player 0 0 5;").hits(0), 1);
        });
        e.promise(8, "BAD;", () -> {
            e.range("hits(..)", () -> Due.of("valley 9;player 0 0 5;player 0 0 5;"), (x, n) -> x.hits(n), 0, 1, -2);
            e.range("hits(..) of seven", () -> Due.of("valley 9;" + "player 0 0 5;".repeat(7)), (x, n) -> x.hits(n), 0, 6, -2);
            e.refused("hits(0) of nobody", TruthOver::new, x -> x.hits(0), -2, 0);
            e.refused("down: hits(3)", Edges::down, x -> x.hits(3), -2, 0);
            e.refused("hour 9999: hits(3)", Edges::late, x -> x.hits(3), -2, 0);
        });
        e.promise(8, "NO: it is DOWN, not on his HILL, HOUR 9999.", () -> {
            for (int p = 0; p < 3; p++) {
                int told = p;
                e.refused("down: hits(" + p + ")", Edges::down, x -> x.hits(told), -3, 1);
                e.refused("hour 9999: hits(" + p + ")", Edges::late, x -> x.hits(told), -3, 1);
            }
            e.refused("not on his hill: hits(1)", Edges::rich, x -> x.hits(1), -3, 1);
            e.due("on his hill: hits(0)", Edges.rich().hits(0), 1);
            TruthOver x = Edges.late();
            e.due("hour 9999 is undone: undo()", x.undo(), 9932);
            e.due("then hits(0)", x.hits(0), 1);
        });
        e.promise(9, "PICKING UP: DROPS.", () -> {
            TruthOver x = Due.of("valley 40;player 0 0 9;player 0 1 9;");
            for (int drops = 1; drops <= 20; drops++) {
                x.hits((drops - 1) % 2);
                e.due("picks(" + drops % 2 + ")", x.picks(drops % 2), drops);
            }
        });
        e.promise(9, "BAD;", () -> {
            e.range("down: picks(..)", Edges::down, (x, n) -> x.picks(n), 0, 1, -2);
            e.refused("up: picks(2)", Edges::rich, x -> x.picks(2), -2, 0);
            e.refused("up: picks(-1)", Edges::rich, x -> x.picks(-1), -2, 0);
        });
        e.promise(9, "NO: it is UP.", () -> {
            e.refused("picks(0)", Edges::rich, x -> x.picks(0), -3, 1);
            e.refused("picks(1)", Edges::rich, x -> x.picks(1), -3, 1);
            TruthOver x = Edges.down();
            x.picks(0);
            e.due("picked up: picks(1)", x.picks(1), -3);
            x.undo();
            e.due("undone: picks(1)", x.picks(1), 1);
        });
        e.promise(10, "RE-FEATHERING: the WEIGHT that it had.", () -> {
            TruthOver x = new TruthOver();
            int had = 1;
            for (int g : new int[] {9, 1, 1, 5, 9, 9, 2}) {
                e.due("cock(0, " + g + ")", x.cock(0, g), had);
                had = g;
            }
            e.due("undo(), then cock", x.undo() + x.cock(0, 1), 9);
        });
        e.promise(10, "BAD.", () -> {
            e.range("cock(.., 1)", Edges::rich, (x, n) -> x.cock(n, 1), 0, 5, -2);
            e.range("cock(0, ..)", Edges::rich, (x, n) -> x.cock(0, n), 1, 9, -2);
            e.range("down: cock(.., 1)", Edges::down, (x, n) -> x.cock(n, 1), 0, 5, -2);
            e.range("down: cock(0, ..)", Edges::down, (x, n) -> x.cock(0, n), 1, 9, -2);
        });
    }

    // ---- hours, what is undone

    private void hoursAndUndo() {
        e.promise(11, "n HOURS go by (1 .. 99; together one that may be undone; 9999 stays): the HOUR.", () -> {
            for (int n : new int[] {1, 2, 98, 99}) {
                TruthOver x = new TruthOver();
                e.due("hours(" + n + ")", x.hours(n), n);
                e.due("count(7)", x.count(7), 1);
                e.due("undo()", x.undo(), 0);
            }
            TruthOver x = new TruthOver();
            for (int i = 0; i < 100; i++) x.hours(99);
            e.due("hours(99), to the end", x.hours(99), 9999);
            e.due("undo()", x.undo(), 9900);
            x.hours(50);
            e.due("hours(50), beyond the end", x.hours(50), 9999);
            e.due("hours(1) at the end", x.hours(1), 9999);
            e.due("undo()", x.undo(), 9999);
            e.due("undo()", x.undo(), 9950);
        });
        e.promise(11, "BAD.", () -> {
            e.range("hours(..)", Edges::rich, (x, n) -> x.hours(n), 1, 99, -2);
            e.range("down: hours(..)", Edges::down, (x, n) -> x.hours(n), 1, 99, -2);
            e.range("hour 9999: hours(..)", Edges::late, (x, n) -> x.hours(n), 1, 99, -2);
        });
        e.promise(12, "UNDO: the HOUR then.", () -> {
            TruthOver x = Edges.rich();
            int[] hours = {2, 2, 1, 0};
            for (int hour : hours) e.due("undo()", x.undo(), hour);
        });
        e.promise(12, "NO: none may be.", () -> {
            e.refused("new: undo()", TruthOver::new, TruthOver::undo, -3, 1);
            e.refused("all is undone: undo()", () -> {
                TruthOver x = Edges.rich();
                while (x.count(7) > 0) x.undo();
                return x;
            }, TruthOver::undo, -3, 1);
        });
        e.terms("UNDO: THE COCK (KIND, WEIGHT, HILL, UP), KEPT, DROPS, the HOUR as ahead of the last STROKE, HOURS gone by,"
            + " PICKING UP, RE-FEATHERING", this::asAheadOfIt);
        e.terms("(8 at most;", this::eightAtMost);
        e.terms("behind WIDE, a WIND told, a PLAYER that comes none may be).", this::noneMayBe);
    }

    private void asAheadOfIt() {
        TruthOver x = Due.of("valley 14;cock 4 1;player 0 0 9;player 0 1 1;");
        x.hits(0);
        x.hits(1);
        x.picks(0);
        x.cock(2, 9);
        x.hours(99);
        x.seen(0, 0, 1);
        x.note(1, 2, 3, 4);
        x.mark(0, 1, 2, 3);
        e.due("hours: undo()", x.undo(), 2);
        e.cock("hours", x, 2, 9, 0, 1, 0, 1);
        e.due("re-feathering: undo()", x.undo(), 2);
        e.cock("re-feathering", x, 4, 1, 0, 1, 0, 1);
        e.due("picking up: undo()", x.undo(), 2);
        e.cock("picking up", x, 4, 1, 1, 0, 0, 1);
        e.due("a stroke that fell short: undo()", x.undo(), 1);
        e.cock("a stroke that fell short", x, 4, 1, 1, 1, 1, 0);
        e.due("a stroke that came over: undo()", x.undo(), 0);
        e.cock("a stroke that came over", x, 4, 1, 0, 1, 0, 0);
        int[] counts = {2, 1, 0, 14, 1, 1, 1, 0};
        for (int i = 0; i < counts.length; i++) e.due("what else is told stays: count(" + i + ")", x.count(i), counts[i]);
    }

    private void eightAtMost() {
        for (int steps = 0; steps <= 20; steps++) {
            TruthOver x = new TruthOver();
            for (int i = 0; i < steps; i++) x.hours(1);
            e.due(steps + " steps: count(7)", x.count(7), Math.min(8, steps));
            for (int i = 1; i <= Math.min(8, steps); i++) e.due(steps + " steps: undo()", x.undo(), steps - i);
            e.due(steps + " steps: undo(), no more", x.undo(), -3);
            e.due(steps + " steps: the hour", x.count(2), Math.max(0, steps - 8));
        }
        TruthOver x = new TruthOver();
        for (int i = 0; i < 9; i++) x.hours(1);
        for (int i = 0; i < 3; i++) x.undo();
        e.due("three undone: count(7)", x.count(7), 5);
        for (int i = 0; i < 4; i++) x.cock(i, 2 + i);
        e.due("four more: count(7)", x.count(7), 8);
        for (int i = 4; i > 0; i--) {
            x.undo();
            e.due("one of four undone: now(1)", x.now(1), i);
        }
        for (int hour = 5; hour >= 2; hour--) e.due("then hours: undo()", x.undo(), hour);
        e.due("none is left: undo()", x.undo(), -3);
    }

    private void noneMayBe() {
        TruthOver x = Edges.rich();
        x.valley(9);
        e.due("WIDE: undo()", x.undo(), -3);
        x = Edges.rich();
        x.wind(0, 1);
        e.due("a WIND, the same: count(7)", x.count(7), 0);
        e.due("a WIND, the same: undo()", x.undo(), -3);
        x = Edges.rich();
        x.wind(5, -4);
        e.due("a WIND: undo()", x.undo(), -3);
        x = Edges.rich();
        x.player(0, 0, 1);
        e.due("a PLAYER: count(7)", x.count(7), 0);
        e.due("a PLAYER: undo()", x.undo(), -3);
        x.hours(1);
        e.due("what comes behind may be: undo()", x.undo(), 32);
        // Those that are refused, and all others, leave what may be undone.
        x = Edges.rich();
        int may = x.count(7);
        x.valley(0);
        x.wind(6, 0);
        x.player(6, 0, 1);
        x.seen(0, 0, 0);
        x.note(1, 1, 1, 1);
        x.mark(0, 1, 1, 1);
        x.forget(0);
        x.gusts(0, 1);
        x.type(';');
        x.clear();
        x.read();
        x.image(0);
        e.due("all others: count(7)", x.count(7), may);
    }

    // ---- what is seen of it

    private void whatIsSeen() {
        e.promise(13, "THE COCK: KIND (0), WEIGHT (1), HILL (2), UP (3; 1, 0), KEPT (4), DROPS (5),", () -> {
            e.cock("rich", Edges.rich(), 1, 2, 0, 1, 2, 0);
            e.cock("down", Edges.down(), 0, 9, 0, 0, 0, 1);
        });
        e.promise(13, "how the WIND HELPS from its HILL now (6; may be below 0).", () -> {
            String text = "valley 9;wind 0 8;player 0 0 9;";
            e.answered("hill 0, hour 0", () -> Due.of(text), x -> x.now(6), -4);
            e.answered("hill 0, hour 1", () -> Due.of(text + "hours 1;"), x -> x.now(6), 4);
            e.answered("hill 1, hour 1", () -> Due.of(text + "hit 0;"), x -> x.now(6), -4);
            e.answered("hill 1, hour 6", () -> Due.of(text + "hit 0;hours 5;"), x -> x.now(6), 4);
            e.answered("down, hill 0, hour 1", () -> Due.of("valley 40;wind 0 8;player 0 0 9;hit 0;"), x -> x.now(6), 4);
        });
        e.promise(13, "BAD: -10.", () -> {
            e.range("now(..)", Edges::rich, (x, n) -> x.now(n), 0, 6, -10);
            e.range("down: now(..)", Edges::down, (x, n) -> x.now(n), 0, 6, -10);
        });
        e.promise(14, "Of a PLAYER: KIND (0), HILL (1), ARM (2), how hard he HITS now (3).", () -> {
            int[][] of = {{0, 0, 6, 12}, {5, 1, 4, 15}, {1, 0, 9, 8}};
            for (int p = 0; p < 3; p++) {
                for (int what = 0; what < 4; what++) {
                    int told = p;
                    int asked = what;
                    e.answered("of(" + p + ", " + what + ")", Edges::rich, x -> x.of(told, asked), of[p][what]);
                }
            }
        });
        e.promise(14, "BAD.", () -> {
            e.range("of(.., 0)", Edges::rich, (x, n) -> x.of(n, 0), 0, 2, -2);
            e.range("of(.., 3)", Edges::rich, (x, n) -> x.of(n, 3), 0, 2, -2);
            e.range("of(0, ..)", Edges::rich, (x, n) -> x.of(0, n), 0, 3, -2);
            e.range("of(.., 0) of seven", Edges::full, (x, n) -> x.of(n, 0), 0, 6, -2);
            e.refused("of(3, 4)", Edges::rich, x -> x.of(3, 4), -2, 0);
        });
    }
}
