/** The terms, from the hills to re-feathering: bounds, what is at first, what is left over. */
final class TermsEdges {
    private final Edges e;

    TermsEdges(Edges e) {
        this.e = e;
    }

    void run() {
        e.terms("1 .. 40 (10 at first).", this::wide);
        e.terms("HOURS have numbers, 0 at first (9999 at most);", this::hours);
        e.terms("of a day: that by 24 left over.", this::hoursOfADay);
        e.terms("WIND of 6 hours (HOUR h has that of h by 6 left over):", this::windOfSixHours);
        e.terms("-4 .. 4 towards HILL 1 (0 at first);", this::windAtFirst);
        e.terms("it HELPS who strikes from HILL 0 by so much, from HILL 1 by 0 less that.", this::windHelps);
        e.terms("THE COCK: a KIND (0 at first), a WEIGHT (1 .. 9; 1 at first);", this::kindAndWeight);
        e.terms("on a HILL (0 at first), UP or DOWN (UP at first).", this::hillAndUp);
        e.terms("PLAYERS 0 .. 6, as they come: a KIND, a HILL, an ARM (1 .. 9).", this::players);
        e.terms("KEPT: how many strokes in a row (0 .. 9999), DROPS (0 .. 9999).", this::keptAndDrops);
        cocks();
        armsOfPlayers();
        strokes();
    }

    private void wide() {
        e.due("new: count(3)", new TruthOver().count(3), 10);
        e.range("valley", Edges::rich, (x, n) -> x.valley(n), 1, 40, -2);
        for (int wide : new int[] {1, 40}) {
            TruthOver x = new TruthOver();
            x.valley(wide);
            e.due("valley(" + wide + "), then count(3)", x.count(3), wide);
        }
    }

    private void hours() {
        TruthOver x = new TruthOver();
        e.due("new: count(2)", x.count(2), 0);
        for (int i = 0; i < 100; i++) x.hours(99);
        e.due("hours(98)", x.hours(98), 9998);
        e.due("hours(1)", x.hours(1), 9999);
        e.due("hours(1) again", x.hours(1), 9999);
        e.due("count(2)", x.count(2), 9999);
        e.due("hours(99)", x.hours(99), 9999);
    }

    /** An old one hits by 0 below hour 6, a vicar by 1 where 7 divides it, a girl by 4 more from hour 18. */
    private void hoursOfADay() {
        TruthOver x = Due.of("valley 9;player 3 0 9;player 4 0 9;player 5 0 9;");
        int[][] rows = {{0, 0, 1, 20}, {5, 0, 15, 20}, {6, 8, 15, 20}, {17, 8, 15, 20}, {18, 8, 15, 24},
            {23, 8, 15, 24}, {24, 0, 1, 20}, {29, 0, 15, 20}, {30, 8, 15, 20}, {31, 8, 1, 20}, {42, 8, 15, 24},
            {47, 8, 15, 24}, {48, 0, 1, 20}};
        for (int[] row : rows) {
            if (row[0] > x.count(2)) x.hours(row[0] - x.count(2));
            for (int p = 0; p < 3; p++) e.due("hour " + row[0] + ": of(" + p + ", 3)", x.of(p, 3), row[p + 1]);
        }
        while (x.count(2) < 9998) x.hours(Math.min(99, 9998 - x.count(2)));
        e.due("hour 9998 is 14: of(1, 3)", x.of(1, 3), 1);
        x.hours(1);
        e.due("hour 9999 is 15: of(1, 3)", x.of(1, 3), 15);
    }

    private void windOfSixHours() {
        int[] winds = {-4, -2, -1, 1, 2, 4};
        TruthOver x = new TruthOver();
        for (int h = 0; h < 6; h++) x.wind(h, winds[h]);
        for (int h = 0; h < 20; h++) {
            e.due("hour " + h + ": now(6)", x.now(6), winds[h % 6]);
            x.hours(1);
        }
        while (x.count(2) < 9999) x.hours(99);
        e.due("hour 9999 is 3: now(6)", x.now(6), 1);
    }

    private void windAtFirst() {
        TruthOver x = new TruthOver();
        for (int h = 0; h < 6; h++) e.due("new: wind(" + h + ", 4)", x.wind(h, 4), 0);
        for (int h = 0; h < 6; h++) e.due("wind(" + h + ", -4)", x.wind(h, -4), 4);
        for (int h = 0; h < 6; h++) e.due("wind(" + h + ", 0)", x.wind(h, 0), -4);
        e.range("wind(0, ..)", Edges::rich, (y, n) -> y.wind(0, n), -4, 4, -10);
        e.range("wind(5, ..)", Edges::rich, (y, n) -> y.wind(5, n), -4, 4, -10);
    }

    private void windHelps() {
        for (int w = -4; w <= 4; w++) {
            TruthOver x = Due.of("valley 1;player 0 0 4;player 0 1 4;");
            x.wind(0, w);
            x.wind(1, w);
            e.due("wind " + w + ", from hill 0: now(6)", x.now(6), w);
            e.due("wind " + w + ", from hill 0: reach(0, 0)", x.reach(0, 0), 9 + w);
            e.due("wind " + w + ", from hill 1: reach(1, 0)", x.reach(1, 0), 9 - w);
            x.hits(0);
            e.due("wind " + w + ", from hill 1: now(6)", x.now(6), -w);
        }
    }

    private void kindAndWeight() {
        TruthOver x = new TruthOver();
        e.due("new: now(0)", x.now(0), 0);
        e.due("new: now(1)", x.now(1), 1);
        e.range("cock(0, ..)", Edges::rich, (y, n) -> y.cock(0, n), 1, 9, -2);
        for (int g = 1; g <= 9; g++) {
            x.cock(5, g);
            e.due("cock(5, " + g + "), then now(1)", x.now(1), g);
            e.due("cock(5, " + g + "), then now(0)", x.now(0), 5);
        }
    }

    private void hillAndUp() {
        TruthOver x = new TruthOver();
        e.due("new: now(2)", x.now(2), 0);
        e.due("new: now(3)", x.now(3), 1);
        x.player(0, 0, 1);
        x.hits(0);
        e.due("fallen short: now(3)", x.now(3), 0);
        x.picks(1);
        e.due("picked up: now(2)", x.now(2), 1);
        e.due("picked up: now(3)", x.now(3), 1);
    }

    private void players() {
        TruthOver x = new TruthOver();
        e.due("new: count(0)", x.count(0), 0);
        for (int p = 0; p < 7; p++) {
            e.refused("player " + p + " is not there yet: of", () -> several(x.count(0)), y -> y.of(x.count(0), 0), -2, 0);
            e.due("player " + p, x.player(p % 6, (p + 1) % 2, 9 - p), p);
            e.due("count(0)", x.count(0), p + 1);
        }
        for (int p = 0; p < 7; p++) {
            e.due("of(" + p + ", 0)", x.of(p, 0), p % 6);
            e.due("of(" + p + ", 1)", x.of(p, 1), (p + 1) % 2);
            e.due("of(" + p + ", 2)", x.of(p, 2), 9 - p);
        }
        e.refused("an eighth", () -> several(7), y -> y.player(0, 0, 1), -4, 2);
        e.range("player(0, 0, ..)", Edges::rich, (y, n) -> y.player(0, 0, n), 1, 9, -2);
    }

    private static TruthOver several(int players) {
        TruthOver x = new TruthOver();
        for (int p = 0; p < players; p++) x.player(p % 6, p % 2, 1);
        return x;
    }

    private void keptAndDrops() {
        TruthOver x = Due.of("valley 5;player 0 0 9;player 0 1 9;player 3 0 1;");
        e.cock("at first", x, 0, 1, 0, 1, 0, 0);
        for (int i = 1; i <= 200; i++) {
            x.hits((i - 1) % 2);
            e.due("stroke " + i + ", now(4)", x.now(4), i);
        }
        e.due("200 in a row: now(5)", x.now(5), 0);
        x = Due.of("valley 40;player 0 0 9;player 0 1 9;");
        for (int i = 1; i <= 100; i++) {
            x.hits((i - 1) % 2);
            e.due("drop " + i + ", now(4)", x.now(4), 0);
            e.due("drop " + i + ", picks", x.picks(i % 2), i);
        }
        x = Due.of("valley 5;player 0 0 9;player 0 1 9;");
        for (int i = 0; i < 101; i++) x.hours(i < 100 ? 99 : 97);
        x.hits(0);
        x.hits(1);
        e.cock("the last two strokes", x, 0, 1, 0, 1, 2, 0);
        e.due("no third: hits(0)", x.hits(0), -3);
        e.cock("no third", x, 0, 1, 0, 1, 2, 0);
    }

    // ---- kinds of cocks

    /** Flown so far it is of that kind; one more or one less, it is not. */
    private void flies(int kind, int g, int x, int w, int far) {
        TruthOver y = new TruthOver();
        for (int off = -1; off <= 1; off++) {
            if (far + off < 0) continue;
            y.note(g, x, w, far + off);
            String told = "kind " + kind + ", weight " + g + ", hit by " + x + ", helped by " + w + ", flew " + (far + off);
            e.due(told, y.is() >> kind & 1, off == 0 ? 1 : 0);
            y.forget(1);
        }
    }

    private void allFly(int kind, int[]... rows) {
        for (int[] r : rows) flies(kind, r[0], r[1], r[2], r[3]);
    }

    private void cocks() {
        e.terms("KINDS of COCKS, each under the one told, say how far one of WEIGHT g FLIES, hit by x, the WIND HELPING by w:",
            this::reachIsAFlight);
        e.terms("0 FEATHER: x and w, less g, 0 at least.", () -> allFly(0, new int[][] {
            {1, 0, 0, 0}, {9, 0, -4, 0}, {1, 1, 0, 0}, {1, 2, 0, 1}, {4, 4, -1, 0}, {4, 5, -1, 0}, {4, 6, -1, 1},
            {9, 30, -4, 17}, {1, 30, 4, 33}, {3, 0, 4, 1}, {4, 0, 4, 0}, {5, 0, 4, 0}}));
        e.terms("1 HEN (under FEATHER): 2 more than FEATHER.", () -> allFly(1, new int[][] {
            {1, 0, 0, 2}, {9, 0, -4, 2}, {1, 1, 0, 2}, {1, 2, 0, 3}, {9, 30, -4, 19}, {1, 30, 4, 35}}));
        e.terms("2 SNOW (under FEATHER): half (cut up) of FEATHER.", () -> allFly(2, new int[][] {
            {9, 0, -4, 0}, {1, 1, 0, 0}, {1, 2, 0, 1}, {1, 3, 0, 1}, {1, 4, 0, 2}, {1, 5, 0, 2}, {1, 30, 4, 17},
            {1, 30, 3, 16}}));
        e.terms("3 RUMOUR (under HEN): HEN, 3 more, if g is 2 or less.", () -> allFly(3, new int[][] {
            {1, 0, 0, 5}, {2, 0, 0, 5}, {3, 0, 0, 2}, {9, 0, -4, 2}, {1, 10, 0, 14}, {2, 10, 0, 13}, {3, 10, 0, 9},
            {1, 30, 4, 38}}));
        e.terms("4 OATH (under FEATHER): FEATHER, but half (cut) of x at least.", () -> allFly(4, new int[][] {
            {9, 0, -4, 0}, {9, 1, 0, 0}, {9, 2, 0, 1}, {9, 3, -4, 1}, {9, 20, -4, 10}, {9, 21, -4, 10}, {9, 24, -4, 12},
            {9, 25, -4, 12}, {9, 26, -4, 13}, {9, 27, -4, 14}, {9, 30, -4, 17}, {1, 30, 4, 33}}));
        e.terms("5 CORK (under HEN): twice HEN, less g, 0 at least.", () -> allFly(5, new int[][] {
            {9, 0, -4, 0}, {3, 0, 0, 1}, {4, 0, 0, 0}, {5, 0, 0, 0}, {9, 10, 0, 0}, {9, 11, 0, 0}, {9, 12, 0, 1},
            {1, 0, 0, 3}, {1, 30, 4, 69}, {9, 30, -4, 29}}));
    }

    /** By a plain one with arm 4 (10), the wind helping by 1, of weight 2. */
    private void reachIsAFlight() {
        int[] far = {9, 11, 5, 14, 9, 20};
        TruthOver x = Due.of("valley 9;wind 5;player 0 0 4;");
        for (int kind = 0; kind < 6; kind++) {
            x.cock(kind, 2);
            e.due("kind " + kind + ": reach(0, 0)", x.reach(0, 0), far[kind]);
        }
        // An old one by night hits by 0: none flies less than 0 far.
        int[] least = {0, 2, 0, 2, 0, 0};
        x = Due.of("valley 9;wind 0;player 3 0 9;");
        for (int kind = 0; kind < 6; kind++) {
            x.cock(kind, 9);
            e.due("kind " + kind + ", hit by 0: reach(0, 0)", x.reach(0, 0), least[kind]);
        }
    }

    // ---- kinds of players

    private void hits(int kind, int b, int t, int hard) {
        TruthOver y = Due.of("valley 9;player 0 0 1;");
        for (int off = -1; off <= 1; off++) {
            if (hard + off < 0) continue;
            y.mark(0, b, t, hard + off);
            String told = "kind " + kind + ", arm " + b + ", hour " + t + ", hit by " + (hard + off);
            e.due(told, y.kinds(0) >> kind & 1, off == 0 ? 1 : 0);
            y.forget(2);
        }
    }

    private void allHit(int kind, int[]... rows) {
        for (int[] r : rows) hits(kind, r[0], r[1], r[2]);
    }

    private void armsOfPlayers() {
        e.terms("KINDS of PLAYERS, each under the one told, say how hard one with ARM b HITS at hour t of a day (0 .. 23):",
            this::hoursThatAreMarked);
        e.terms("0 PLAIN: 6 more than b.", () -> allHit(0, new int[][] {{1, 0, 7}, {9, 0, 15}, {1, 23, 7}, {9, 23, 15}}));
        e.terms("1 CHILD (under PLAIN): half (cut up) of PLAIN.", () -> allHit(1, new int[][] {
            {1, 0, 4}, {2, 0, 4}, {3, 0, 5}, {8, 23, 7}, {9, 23, 8}}));
        e.terms("2 HARD (under PLAIN): 5 more than PLAIN.", () -> allHit(2, new int[][] {
            {1, 0, 12}, {9, 0, 20}, {1, 23, 12}, {9, 23, 20}}));
        e.terms("3 OLD (under CHILD): as CHILD, but 0, if t is below 6.", () -> allHit(3, new int[][] {
            {1, 0, 0}, {9, 5, 0}, {1, 6, 4}, {2, 6, 4}, {9, 6, 8}, {9, 7, 8}, {9, 23, 8}}));
        e.terms("4 VICAR (under PLAIN): as PLAIN, but 1, if 7 divides t.", () -> allHit(4, new int[][] {
            {9, 0, 1}, {9, 1, 15}, {9, 6, 15}, {9, 7, 1}, {1, 8, 7}, {9, 13, 15}, {1, 14, 1}, {9, 15, 15}, {9, 20, 15},
            {9, 21, 1}, {9, 22, 15}, {1, 23, 7}}));
        e.terms("5 GIRL (under HARD): HARD, 4 more, if t is 18 or more.", () -> allHit(5, new int[][] {
            {1, 0, 12}, {9, 17, 20}, {1, 18, 16}, {9, 18, 24}, {9, 19, 24}, {9, 23, 24}}));
    }

    private void hoursThatAreMarked() {
        e.range("mark(0, 1, .., 7)", Edges::rich, (x, n) -> x.mark(0, 1, n, 7), 0, 23, -2);
        int[] hard = {10, 5, 15, 0, 1, 15};
        int[] late = {10, 5, 15, 5, 10, 19};
        TruthOver x = new TruthOver();
        for (int kind = 0; kind < 6; kind++) x.player(kind, 0, 4);
        for (int p = 0; p < 6; p++) e.due("hour 0: of(" + p + ", 3)", x.of(p, 3), hard[p]);
        x.hours(23);
        for (int p = 0; p < 6; p++) e.due("hour 23: of(" + p + ", 3)", x.of(p, 3), late[p]);
    }

    // ---- strokes

    private void strokes() {
        e.terms("REACH of a PLAYER: how far THE COCK FLIES, hit by him in this HOUR from his HILL.", this::reachNow);
        e.terms("A STROKE by a PLAYER on the HILL where it is UP:", this::whereItIsUp);
        e.terms("if REACH is as much as the valley is WIDE, or more, it comes to the other HILL, one more is KEPT,",
            this::justOver);
        e.terms("else it is DOWN, DROPS are one more, none KEPT;", this::justShort);
        e.terms("the HOUR is one more.", this::oneHourMore);
        e.terms("PICKING UP one that is DOWN: it is UP on a HILL.", this::pickingUp);
        e.terms("RE-FEATHERING: a KIND, a WEIGHT (UP or DOWN).", this::reFeathering);
    }

    private void reachNow() {
        TruthOver x = Due.of("valley 9;wind 8 0;player 5 0 1;player 5 1 1;");
        int[][] rows = {{0, 15, 7}, {1, 7, 15}, {17, 11, 11}, {18, 19, 11}, {19, 11, 19}, {24, 15, 7}};
        for (int[] row : rows) {
            if (row[0] > x.count(2)) x.hours(row[0] - x.count(2));
            for (int p = 0; p < 2; p++) e.due("hour " + row[0] + ": reach(" + p + ", 0)", x.reach(p, 0), row[p + 1]);
        }
    }

    private void whereItIsUp() {
        e.refused("on the other hill: hits(1)", () -> Due.of("valley 9;player 0 0 9;player 0 1 9;"), x -> x.hits(1), -3, 1);
        e.refused("it came over: hits(0)", () -> Due.of("valley 9;player 0 0 9;player 0 1 9;hit 0;"), x -> x.hits(0), -3, 1);
        e.refused("it is down: hits(0)", () -> Due.of("valley 40;player 0 0 9;hit 0;"), x -> x.hits(0), -3, 1);
    }

    /** Without wind a plain one with arm 5 sends it 10 far. */
    private void justOver() {
        for (int wide : new int[] {1, 9, 10}) {
            for (int hill = 0; hill < 2; hill++) {
                TruthOver x = strikingFrom(hill, wide);
                e.cock("ahead of it", x, 0, 1, hill, 1, 2, 1);
                e.due("wide " + wide + ": hits", x.hits(2 + hill), 1);
                e.cock("wide " + wide + " from hill " + hill, x, 0, 1, 1 - hill, 1, 3, 1);
            }
        }
    }

    private void justShort() {
        for (int wide : new int[] {11, 12, 40}) {
            for (int hill = 0; hill < 2; hill++) {
                TruthOver x = strikingFrom(hill, wide);
                e.cock("ahead of it", x, 0, 1, hill, 1, 2, 1);
                e.due("wide " + wide + ": hits", x.hits(2 + hill), 0);
                e.cock("wide " + wide + " from hill " + hill, x, 0, 1, hill, 0, 0, 2);
            }
        }
    }

    /** One has dropped, two strokes were kept (a cork flies far); it is a feather again, up on this hill. */
    private static TruthOver strikingFrom(int hill, int wide) {
        TruthOver x = Due.of("valley " + wide
            + ";player 2 0 9;player 2 1 9;player 0 0 5;player 0 1 5;player 3 0 1;cock 0 9;hit 4;");
        x.picks(hill);
        x.cock(5, 1);
        x.hits(hill);
        x.hits(1 - hill);
        x.cock(0, 1);
        return x;
    }

    private void oneHourMore() {
        TruthOver x = Due.of("valley 14;player 0 0 9;player 0 1 1;");
        x.hits(0);
        e.due("over: count(2)", x.count(2), 1);
        x.hits(1);
        e.due("short: count(2)", x.count(2), 2);
        x.picks(0);
        x.hours(99);
        x.hits(0);
        e.due("over: count(2)", x.count(2), 102);
    }

    private void pickingUp() {
        for (int hill = 0; hill < 2; hill++) {
            TruthOver x = Due.of("valley 40;cock 4 7;player 0 0 9;hit 0;");
            e.cock("down", x, 4, 7, 0, 0, 0, 1);
            x.picks(hill);
            e.cock("picked up on hill " + hill, x, 4, 7, hill, 1, 0, 1);
            e.due("no hour is gone: count(2)", x.count(2), 1);
        }
        e.refused("it is up: picks(0)", Edges::rich, x -> x.picks(0), -3, 1);
        e.refused("it is up: picks(1)", Edges::rich, x -> x.picks(1), -3, 1);
    }

    private void reFeathering() {
        TruthOver x = Due.of("valley 14;player 0 0 9;hit 0;");
        x.cock(5, 9);
        e.cock("up", x, 5, 9, 1, 1, 1, 0);
        e.due("no hour is gone: count(2)", x.count(2), 1);
        x = Due.of("valley 40;player 0 0 9;hit 0;");
        x.cock(3, 2);
        e.cock("down", x, 3, 2, 0, 0, 0, 1);
        e.due("no hour is gone: count(2)", x.count(2), 1);
    }
}
