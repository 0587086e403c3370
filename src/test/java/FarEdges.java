import java.util.Arrays;
import java.util.function.Supplier;

/** How far, who may, rallies, how long: the terms of these questions and promises 15 to 19. */
final class FarEdges {
    /** Player 0 let it drop on hill 0; 1 there and 2 on hill 1 would carry it over. */
    private static final String DOWN_AMONG_CARRIERS = "valley 10;player 0 0 4;player 0 0 5;player 0 1 5;hit 0;";

    private final Edges e;

    FarEdges(Edges e) {
        this.e = e;
    }

    void run() {
        e.terms("======== 2 (Nothing is changed by these;", this::nothingIsChanged);
        e.terms("HOURS go beyond 9999 in them.)", this::beyondTheLastHour);
        e.terms("REACH of a PLAYER behind m (0 .. 47) HOURS, wherever THE COCK is.", this::reachBehindHours);
        e.terms("MAY: PLAYERS (bits) on the HILL where it is UP who would carry it over now (DOWN: nobody).", this::mayNow);
        e.terms("RALLY for PLAYERS told (bits): in each HOUR one who can carry it over strikes, or nobody does:",
            this::whoCanStrikes);
        e.terms("the fewest HOURS (0 .. 20) behind which all these have struck: how many;", this::fewestHours);
        e.terms("who strikes in the k-th HOUR (0 on) of the first such row (nobody (NONE) first, then PLAYERS rising);",
            this::firstRow);
        e.terms("none (also: DOWN, if somebody is told).", this::noRally);
        e.terms("LASTS: the most STROKES from now on, one in each HOUR, none missed, all carried over (0 .. 60; DOWN: 0).",
            this::howLong);
        e.terms("PLACE: each PLAYER's HILL chosen anew, so that it LASTS longest (THE COCK where it is): how long;",
            this::longest);
        e.terms("the HILL of one in the first such way (HILLS of PLAYERS 0, 1, .., rising).", this::firstWay);
        promises();
    }

    private void promises() {
        e.promise(15, "REACH.", () -> e.answered("reach(0, 0)", () -> Due.of("valley 9;player 0 0 4;"), x -> x.reach(0, 0), 9));
        e.promise(15, "BAD.", () -> {
            e.range("reach(.., 0)", Edges::rich, (x, n) -> x.reach(n, 0), 0, 2, -2);
            e.range("reach(0, ..)", Edges::rich, (x, n) -> x.reach(0, n), 0, 47, -2);
            e.refused("reach(0, 0) of nobody", TruthOver::new, x -> x.reach(0, 0), -2, 0);
            e.refused("reach(7, 0)", Edges::full, x -> x.reach(7, 0), -2, 0);
        });
        e.promise(16, "MAY, as bits.", () -> {
            for (int p = 0; p < 7; p++) {
                int carrier = p;
                e.answered("may() of player " + p + " alone", () -> onlyOneCarries(carrier), TruthOver::may, 1 << p);
            }
        });
        e.promise(17, "RALLY: how many (k = -2), who strikes in the k-th HOUR (NONE: nobody).", () -> {
            row(Due.of("valley 10;wind 0 4;player 0 0 5;"), 1, -1, 0);
            row(Due.of("valley 10;player 0 0 5;"), 1, 0);
        });
        e.promise(17, "-6: none (whatever k is).", () -> {
            for (int k : new int[] {-2, 0, 1, 19, 20, 21, Integer.MAX_VALUE}) {
                e.answered("rally(1, " + k + ")", () -> Due.of("valley 40;player 0 0 5;"), x -> x.rally(1, k), -6);
            }
        });
        e.promise(17, "-5: not so many.", () -> {
            for (int k : new int[] {2, 3, 19, 20, 21, Integer.MAX_VALUE}) {
                e.answered("rally(1, " + k + ")", () -> Due.of("valley 10;wind 0 4;player 0 0 5;"), x -> x.rally(1, k), -5);
            }
            for (int k : new int[] {0, 1, Integer.MAX_VALUE}) {
                e.answered("rally(0, " + k + ")", Edges::down, x -> x.rally(0, k), -5);
                e.answered("rally(0, " + k + ") of nobody", TruthOver::new, x -> x.rally(0, k), -5);
            }
        });
        e.promise(17, "BAD: -10: k = -1, too.", this::rallyIsBad);
        e.promise(18, "LASTS.", () -> {
            e.answered("lasts()", Edges::rich, TruthOver::lasts, 60);
            e.answered("lasts() of nobody", TruthOver::new, TruthOver::lasts, 0);
        });
        e.promise(19, "PLACE: how long (p = NONE), the HILL of one.", () -> {
            e.answered("place(-1)", () -> Due.of("valley 9;player 0 0 9;player 0 0 9;"), x -> x.place(-1), 60);
            e.answered("place(0)", () -> Due.of("valley 9;player 0 0 9;player 0 0 9;"), x -> x.place(0), 0);
            e.answered("place(1)", () -> Due.of("valley 9;player 0 0 9;player 0 0 9;"), x -> x.place(1), 1);
        });
        e.promise(19, "BAD: -10.", () -> {
            e.range("place(..)", Edges::rich, (x, n) -> x.place(n), -1, 2, -10);
            e.range("place(..) while it is down", Edges::down, (x, n) -> x.place(n), -1, 2, -10);
            e.range("place(..) of seven", Edges::full, (x, n) -> x.place(n), -1, 6, -10);
            e.range("place(..) of nobody", TruthOver::new, (x, n) -> x.place(n), -1, -1, -10);
        });
    }

    private static TruthOver onlyOneCarries(int carrier) {
        TruthOver x = new TruthOver();
        for (int p = 0; p < 7; p++) x.player(0, 0, p == carrier ? 5 : 4);
        return x;
    }

    private void rallyIsBad() {
        for (Supplier<TruthOver> made : Arrays.<Supplier<TruthOver>>asList(TruthOver::new, Edges::rich, Edges::down)) {
            int all = (1 << made.get().count(0)) - 1;
            e.range("rally(.., -2)", made, (x, n) -> x.rally(n, -2), 0, all, -10);
            e.range("rally(.., 0)", made, (x, n) -> x.rally(n, 0), 0, all, -10);
            for (int players = 0; players <= all; players++) {
                int told = players;
                for (int k : new int[] {-1, -3, -4, Integer.MIN_VALUE}) {
                    e.refused("rally(" + told + ", " + k + ")", made, x -> x.rally(told, k), -10, 0);
                }
            }
        }
        e.range("rally(.., -2) of seven", Edges::full, (x, n) -> x.rally(n, -2), 0, 127, -10);
        e.refused("rally(1 << 7, -2) of seven", Edges::full, x -> x.rally(1 << 7, -2), -10, 0);
        e.refused("rally(1, -1) that is none", () -> Due.of("valley 40;player 0 0 5;"), x -> x.rally(1, -1), -10, 0);
    }

    // ---- nothing is changed

    private void nothingIsChanged() {
        for (Supplier<TruthOver> made : Arrays.<Supplier<TruthOver>>asList(Edges::rich, Edges::down, Edges::late, Edges::full)) {
            long before = Edges.all(made.get());
            TruthOver x = made.get();
            int[] status = {x.status(0), x.status(1), x.status(2)};
            x.may();
            x.lasts();
            x.place(-1);
            x.is();
            x.look();
            for (int p = 0; p < 3; p++) {
                x.reach(p, 47);
                x.place(p);
                x.tell(p);
                x.kinds(p);
                x.ask(p);
            }
            for (int i = 0; i < 3; i++) x.heavy(i);
            for (int k = -2; k < 21; k++) if (k != -1) x.rally(7, k);
            for (int seed = 0; seed < 10; seed++) x.centuries(seed, 60);
            for (int i = 0; i < 3; i++) e.due("status(" + i + ")", x.status(i), status[i]);
            x.yours(0, 2);
            e.due("all else", Edges.all(x), before);
        }
    }

    /** Hour 9999 is hour 3 of the winds and 15 of a day. */
    private static TruthOver atTheEnd(String text) {
        TruthOver x = Due.of(text);
        for (int i = 0; i < 101; i++) x.hours(99);
        return x;
    }

    private void beyondTheLastHour() {
        String text = "valley 14;wind 4 4 4 4 8 0;player 4 0 9;player 0 1 9;";
        e.answered("hour 10000: reach(1, 1)", () -> atTheEnd(text), x -> x.reach(1, 1), 10);
        e.answered("hour 10001: reach(1, 2)", () -> atTheEnd(text), x -> x.reach(1, 2), 18);
        // 10046 is hour 2 of the winds and 14 of a day, 10045 is 1 and 13.
        e.answered("hour 10045: reach(0, 46)", () -> atTheEnd(text), x -> x.reach(0, 46), 14);
        e.answered("hour 10046: reach(0, 47)", () -> atTheEnd(text), x -> x.reach(0, 47), 0);
        e.answered("may() in hour 9999", () -> atTheEnd(text), TruthOver::may, 1);
        e.answered("lasts() in hour 9999", () -> atTheEnd(text), TruthOver::lasts, 1);
        row(atTheEnd(text), 3, -1, 0, 1);
        e.answered("lasts() beyond it", () -> atTheEnd("valley 14;player 0 0 9;player 0 1 9;"), TruthOver::lasts, 60);
        e.answered("place(-1) beyond it", () -> atTheEnd("valley 14;player 0 0 9;player 0 0 9;"), x -> x.place(-1), 60);
        e.answered("yours(0, 1) in hour 9999", () -> atTheEnd("valley 14;player 0 0 9;player 0 0 9;"), x -> x.yours(0, 1), 6);
        String all = "valley 1;" + "player 2 0 9;".repeat(4) + "player 2 1 9;".repeat(3);
        // By seed 0 players 0, 6, 6, 4, 5, 1 are called.
        int[] over = {0, 1, 2, 2, 2, 2, 3};
        for (int n = 0; n < over.length; n++) {
            int hours = n;
            e.answered("centuries(0, " + n + ") beyond it", () -> atTheEnd(all), x -> x.centuries(0, hours), over[n]);
        }
        TruthOver x = atTheEnd(all);
        e.due("but a stroke stays: hits(0)", x.hits(0), -3);
        e.due("but the hour stays: hours(1)", x.hours(1), 9999);
    }

    private void reachBehindHours() {
        e.range("reach(0, ..)", Edges::rich, (x, n) -> x.reach(0, n), 0, 47, -2);
        int[] winds = {-4, -2, 0, 1, 2, 4};
        TruthOver x = Due.of("valley 40;wind 0 2 4 5 6 8;player 5 0 1;player 5 1 1;");
        for (int m = 0; m <= 47; m++) {
            int hard = m % 24 >= 18 ? 16 : 12;
            e.due("from hill 0: reach(0, " + m + ")", x.reach(0, m), hard + winds[m % 6] - 1);
            e.due("from hill 1: reach(1, " + m + ")", x.reach(1, m), hard - winds[m % 6] - 1);
        }
        x.hours(17);
        e.due("hour 17: reach(0, 0)", x.reach(0, 0), 15);
        e.due("hour 18: reach(0, 1)", x.reach(0, 1), 11);
        e.due("hour 64: reach(0, 47)", x.reach(0, 47), 13);
        x.hits(0);
        e.due("it is down", x.now(3), 0);
        for (int hill = 0; hill < 2; hill++) {
            e.due("hour 18, down: reach(0, 0)", x.reach(0, 0), 11);
            e.due("hour 18, down: reach(1, 0)", x.reach(1, 0), 19);
            x.picks(hill);
            e.due("hour 18, up on hill " + hill + ": reach(0, 0)", x.reach(0, 0), 11);
            e.due("hour 18, up on hill " + hill + ": reach(1, 0)", x.reach(1, 0), 19);
            x.undo();
        }
    }

    private void mayNow() {
        String text = "valley 10;player 0 0 4;player 0 0 5;player 0 0 6;player 0 1 4;player 0 1 5;player 0 1 6;";
        e.answered("from hill 0", () -> Due.of(text), TruthOver::may, 6);
        e.answered("from hill 1", () -> Due.of(text + "hit 1;"), TruthOver::may, 48);
        e.answered("down", () -> Due.of(text + "hit 0;"), TruthOver::may, 0);
        e.answered("picked up on hill 1", () -> Due.of(text + "hit 0;pick 1;"), TruthOver::may, 48);
        e.answered("all seven", () -> Due.of("valley 10;" + "player 0 0 5;".repeat(7)), TruthOver::may, 127);
        e.answered("nobody of seven", () -> Due.of("valley 10;" + "player 0 0 4;".repeat(7)), TruthOver::may, 0);
        e.answered("nobody there", TruthOver::new, TruthOver::may, 0);
        e.answered("nobody there, as near as may be", () -> Due.of("valley 1;cock 5 1;"), TruthOver::may, 0);
        // The wind of this hour, not of the next.
        e.answered("hour 0", () -> Due.of("valley 10;wind 5 0;player 0 0 4;"), TruthOver::may, 1);
        e.answered("hour 1", () -> Due.of("valley 10;wind 5 0;player 0 0 4;hours 1;"), TruthOver::may, 0);
    }

    // ---- rallies

    private void row(TruthOver x, int players, int... want) {
        e.due("rally(" + players + ", -2)", x.rally(players, -2), want.length);
        for (int k = 0; k < want.length; k++) e.due("rally(" + players + ", " + k + ")", x.rally(players, k), want[k]);
        e.due("rally(" + players + ", " + want.length + ")", x.rally(players, want.length), -5);
    }

    private void whoCanStrikes() {
        // Player 0 falls short by one, player 1 just carries it over.
        TruthOver x = Due.of("valley 10;player 0 0 4;player 0 0 5;player 0 1 5;");
        e.due("rally(1, -2)", x.rally(1, -2), -6);
        row(x, 2, 1);
        row(x, 4, 1, 2);
        row(x, 6, 1, 2);
        e.due("rally(3, -2)", x.rally(3, -2), -6);
        e.due("rally(7, -2)", x.rally(7, -2), -6);
        // One who is not told may strike, so that a told one can; nobody there: none can.
        x = Due.of("valley 10;player 0 1 5;");
        e.due("nobody to carry it to him: rally(1, -2)", x.rally(1, -2), -6);
        x.player(0, 0, 5);
        row(x, 1, 1, 0);
    }

    private void fewestHours() {
        TruthOver x = Edges.rich();
        row(x, 0);
        // Seven, by turns on the hills.
        x = Due.of("valley 10;" + "player 0 0 5;player 0 1 5;".repeat(3) + "player 0 0 5;");
        row(x, 127, 0, 1, 2, 3, 4, 5, 6);
        // Seven on one hill and nobody on the other: one alone ever strikes.
        x = Due.of("valley 10;" + "player 0 0 5;".repeat(7));
        for (int p = 0; p < 7; p++) row(x, 1 << p, p);
        e.due("rally(3, -2)", x.rally(3, -2), -6);
        // Six on one hill: the seventh carries it back five times.
        x = Due.of("valley 10;" + "player 0 0 5;".repeat(6) + "player 0 1 5;");
        row(x, 63, 0, 6, 1, 6, 2, 6, 3, 6, 4, 6, 5);
        row(x, 127, 0, 6, 1, 6, 2, 6, 3, 6, 4, 6, 5);
        twentyHours();
    }

    /** Girls that carry it over from hour 18 of a day on alone. */
    private void twentyHours() {
        int[] nineteen = new int[19];
        Arrays.fill(nineteen, -1);
        nineteen[18] = 0;
        int[] twenty = Arrays.copyOf(nineteen, 20);
        twenty[19] = 1;
        TruthOver x = Due.of("valley 15;player 5 0 1;player 5 1 1;player 5 0 1;");
        row(x, 1, nineteen);
        row(x, 2, twenty);
        row(x, 3, twenty);
        e.due("a 21st hour: rally(5, -2)", x.rally(5, -2), -6);
        e.due("a 21st hour: rally(7, 20)", x.rally(7, 20), -6);
        x.hours(1);
        e.due("one hour on: rally(7, -2)", x.rally(7, -2), 20);
        int[] threeMore = {-1, 0, 1, 2};
        for (int k = 16; k < 20; k++) e.due("one hour on: rally(7, " + k + ")", x.rally(7, k), threeMore[k - 16]);
        e.due("one hour on: rally(7, 20)", x.rally(7, 20), -5);
    }

    private void firstRow() {
        // Two could strike first: the lower one does; told is the higher one: he does.
        TruthOver x = Due.of("valley 10;player 0 0 5;player 0 0 5;player 0 1 5;player 0 1 5;");
        row(x, 4, 0, 2);
        row(x, 8, 0, 3);
        row(x, 6, 1, 2);
        row(x, 13, 0, 2, 0, 3);
        // In hours 0 and 1 all on hill 0 can, on hill 1 in hour 2 alone: nobody first, then the lower one.
        x = Due.of("valley 12;wind 6 6 2 4 4 4;player 0 0 5;player 0 0 5;player 0 1 5;");
        row(x, 4, -1, 0, 2);
        row(x, 5, -1, 0, 2);
        row(x, 6, -1, 1, 2);
        // He can in hour 3 alone.
        row(Due.of("valley 12;wind 4 4 4 6 4 4;player 0 0 5;"), 1, -1, -1, -1, 0);
        // It is on hill 1 first.
        x = Due.of("valley 10;player 0 0 5;player 0 0 5;player 0 1 5;player 0 1 5;hit 0;");
        row(x, 4, 2);
        row(x, 8, 3);
        row(x, 2, 2, 1);
        row(x, 15, 2, 0, 3, 1);
        row(Due.of("valley 12;wind 4 4 4 2 4 4;player 0 1 5;player 2 0 9;hit 1;"), 1, -1, -1, 0);
        // All carry it over in each hour, but the told ones are soonest: no hour is let go by.
        row(Due.of("valley 10;player 0 0 5;player 0 1 5;"), 3, 0, 1);
    }

    private void noRally() {
        for (int players = 1; players < 8; players++) {
            int told = players;
            for (int k : new int[] {-2, 0, 20}) {
                e.answered("down: rally(" + told + ", " + k + ")", Edges::down, x -> x.rally(told, k), -6);
            }
        }
        // Were it up, players 1 and 2 would carry it over at once: it is none because it is down.
        for (int players : new int[] {2, 4, 6}) {
            for (int k : new int[] {-2, 0, 1, 20}) {
                e.answered("down among carriers: rally(" + players + ", " + k + ")",
                    () -> Due.of(DOWN_AMONG_CARRIERS), x -> x.rally(players, k), -6);
            }
        }
        e.answered("down among carriers: rally(0, -2)", () -> Due.of(DOWN_AMONG_CARRIERS), x -> x.rally(0, -2), 0);
        row(Due.of(DOWN_AMONG_CARRIERS + "pick 0;"), 2, 1);
        row(Due.of(DOWN_AMONG_CARRIERS + "pick 1;"), 4, 2);
        e.answered("down, nobody is told: rally(0, -2)", Edges::down, x -> x.rally(0, -2), 0);
        e.answered("nobody there, nobody told: rally(0, -2)", TruthOver::new, x -> x.rally(0, -2), 0);
        // Asked again, when it can no longer be: the first answer is none of the second's.
        TruthOver again = Due.of("valley 10;player 0 0 5;player 0 1 5;");
        row(again, 3, 0, 1);
        again.cock(0, 2);
        e.due("too heavy: rally(1, -2)", again.rally(1, -2), -6);
        e.due("too heavy: rally(3, -2)", again.rally(3, -2), -6);
        e.answered("he falls short by one", () -> Due.of("valley 11;player 0 0 5;"), x -> x.rally(1, -2), -6);
        e.answered("he carries it over", () -> Due.of("valley 10;player 0 0 5;"), x -> x.rally(1, -2), 1);
    }

    // ---- how long

    private void howLong() {
        e.answered("nobody", TruthOver::new, TruthOver::lasts, 0);
        e.answered("nobody, as near as may be", () -> Due.of("valley 1;cock 5 1;"), TruthOver::lasts, 0);
        e.answered("short by one", () -> Due.of("valley 11;player 0 0 5;player 0 1 5;"), TruthOver::lasts, 0);
        e.answered("just over", () -> Due.of("valley 10;player 0 0 5;player 0 1 5;"), TruthOver::lasts, 60);
        e.answered("one alone", () -> Due.of("valley 10;player 0 0 5;"), TruthOver::lasts, 1);
        e.answered("one on the other hill", () -> Due.of("valley 10;player 0 1 5;"), TruthOver::lasts, 0);
        e.answered("down among carriers", () -> Due.of(DOWN_AMONG_CARRIERS), TruthOver::lasts, 0);
        e.answered("picked up on hill 0", () -> Due.of(DOWN_AMONG_CARRIERS + "pick 0;"), TruthOver::lasts, 60);
        e.answered("picked up on hill 1", () -> Due.of(DOWN_AMONG_CARRIERS + "pick 1;"), TruthOver::lasts, 60);
        // On hill 1, in even hours of a day, an old one fails below 6, a vicar where 7 divides it: both in 0 alone.
        String night = "valley 7;player 0 0 9;player 3 1 9;player 4 1 9;";
        e.answered("until hour 24", () -> Due.of(night + "hours 1;"), TruthOver::lasts, 23);
        e.answered("until hour 24, from hour 21", () -> Due.of(night + "hours 21;"), TruthOver::lasts, 3);
        e.answered("until hour 24, from hour 23", () -> Due.of(night + "hours 23;"), TruthOver::lasts, 1);
        e.answered("from hour 25", () -> Due.of(night + "hours 25;"), TruthOver::lasts, 23);
        e.answered("in odd hours one of them always can", () -> Due.of(night), TruthOver::lasts, 60);
        e.answered("from hill 1 in hour 1", () -> Due.of(night + "hit 0;"), TruthOver::lasts, 60);
        e.answered("down", Edges::down, TruthOver::lasts, 0);
        e.answered("picked up on hill 0", () -> Due.of("valley 10;player 0 0 4;player 0 1 5;player 0 0 5;hit 0;pick 0;"),
            TruthOver::lasts, 60);
    }

    private void placed(String text, int longest, int... want) {
        e.answered(text + " place(-1)", () -> Due.of(text), x -> x.place(-1), longest);
        for (int i = 0; i < want.length; i++) {
            int p = i;
            e.answered(text + " place(" + p + ")", () -> Due.of(text), x -> x.place(p), want[p]);
        }
    }

    private void longest() {
        e.answered("nobody", TruthOver::new, x -> x.place(-1), 0);
        e.answered("nobody, as near as may be", () -> Due.of("valley 1;cock 5 1;"), x -> x.place(-1), 0);
        placed("valley 1;cock 5 1;player 2 1 9;", 1, 0);
        placed("valley 10;player 0 1 5;", 1);
        placed("valley 11;player 0 1 5;", 0);
        placed("valley 10;player 0 1 5;player 0 1 5;", 60);
        placed("valley 10;player 0 1 4;player 0 1 5;", 1);
        // It is on hill 1: there one should stand.
        placed("valley 10;player 0 0 5;hit 0;", 1, 1);
        placed("valley 10;player 0 0 5;player 0 0 4;hit 1;pick 1;", 1, 1, 0);
        // One hits with the wind, the other one against it, from whichever hill.
        placed("valley 12;wind 6 6 6 6 6 6;player 0 1 5;player 0 1 9;", 60, 0, 1);
        placed("valley 12;wind 2 2 2 2 2 2;player 0 0 5;player 0 0 9;", 60, 1, 0);
        placed("valley 40;player 0 1 9;player 0 1 9;", 0, 0, 0);
        placed(DOWN_AMONG_CARRIERS, 0, 0, 0, 0);
        placed(DOWN_AMONG_CARRIERS + "pick 0;", 60, 0, 0, 1);
        placed("valley 9;player 0 0 1;player 0 0 9;hit 0;", 0, 0, 0);
        placed("valley 7;player 0 0 9;player 3 0 9;player 4 0 9;hours 1;", 60);
    }

    private void firstWay() {
        placed("valley 10;player 0 1 5;player 0 1 5;player 0 1 5;", 60, 0, 0, 1);
        placed("valley 10;player 0 1 5;player 0 1 5;player 0 1 4;", 60, 0, 1, 0);
        placed("valley 10;player 0 1 4;player 0 1 5;player 0 1 5;", 60, 0, 0, 1);
        placed("valley 10;player 0 1 5;player 0 1 4;player 0 1 4;", 1, 0, 0, 0);
        placed("valley 10;" + "player 0 1 5;".repeat(7), 60, 0, 0, 0, 0, 0, 0, 1);
        placed("valley 10;player 0 0 5;player 0 0 5;" + "player 0 1 4;".repeat(5), 60, 0, 1, 0, 0, 0, 0, 0);
        placed("valley 10;" + "player 0 0 5;".repeat(7) + "hit 6;", 60, 0, 0, 0, 0, 0, 0, 1);
        // He who hits from hill 1 against the wind must have an arm of 9.
        placed("valley 12;wind 6 6 6 6 6 6;player 0 1 9;player 0 1 5;player 0 1 5;", 60, 1, 0, 0);
        placed("valley 12;wind 6 6 6 6 6 6;player 0 1 5;player 0 1 9;player 0 0 9;", 60, 0, 0, 1);
    }
}
