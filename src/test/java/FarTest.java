/** Promises 15 to 19: reach, may, rally, lasts, place. */
public final class FarTest {
    private static final Due DUE = new Due();

    public static void main(String[] args) {
        reach();
        reachByKinds();
        may();
        rally();
        rallyEdges();
        lasts();
        place();
        beyondTheLastHour();
        DUE.end();
    }

    private static void due(String call, long got, long want) {
        DUE.due(call, got, want);
    }

    private static void reach() {
        TruthOver x = Due.of("valley 10;wind 4 8 0;player 0 0 4;player 5 1 4;");
        due("reach(-1, 0)", x.reach(-1, 0), -2);
        due("reach(2, 0)", x.reach(2, 0), -2);
        due("reach(0, -1)", x.reach(0, -1), -2);
        due("reach(0, 48)", x.reach(0, 48), -2);
        due("status(0)", x.status(0), 4);
        due("reach(0, 0)", x.reach(0, 0), 9);
        due("reach(0, 1)", x.reach(0, 1), 13);
        due("reach(0, 2)", x.reach(0, 2), 5);
        due("reach(0, 7)", x.reach(0, 7), 13);
        due("reach(1, 1), from hill 1", x.reach(1, 1), 10);
        due("reach(1, 20), by night", x.reach(1, 20), 22);
        due("reach(1, 47), by night", x.reach(1, 47), 18);
        x.hours(1);
        due("reach(0, 0) in hour 1", x.reach(0, 0), 13);
        due("reach(0, 47) in hour 1", x.reach(0, 47), 9);
        x.cock(0, 9);
        x.hits(0);
        due("it is down", x.now(3), 0);
        due("reach(0, 0), wherever it is", x.reach(0, 0), 0);
        due("nothing is changed", x.count(2), 2);
    }

    /** Hit by 8 (a child with arm 9) or 11 (a plain one with arm 5), of each weight. */
    private static void reachByKinds() {
        int[][] byEight = {{7, 9, 4, 12, 7, 17}, {6, 8, 3, 11, 6, 14}, {5, 7, 3, 7, 5, 11}, {0, 2, 0, 2, 4, 0}};
        int[] weights = {1, 2, 3, 8};
        TruthOver x = Due.of("valley 10;wind 4 4 8 0;player 1 0 9;player 0 1 5;");
        for (int i = 0; i < weights.length; i++) {
            for (int kind = 0; kind < 6; kind++) {
                x.cock(kind, weights[i]);
                due("kind " + kind + " of weight " + weights[i], x.reach(0, 0), byEight[i][kind]);
            }
        }
        int[] againstFour = {0, 2, 0, 2, 5, 0};
        for (int kind = 0; kind < 6; kind++) {
            x.cock(kind, 9);
            due("kind " + kind + " against the wind", x.reach(1, 2), againstFour[kind]);
        }
        int[] withFour = {6, 8, 3, 8, 6, 7};
        for (int kind = 0; kind < 6; kind++) {
            x.cock(kind, 9);
            due("kind " + kind + " with the wind", x.reach(1, 3), withFour[kind]);
        }
    }

    private static void may() {
        TruthOver x = Due.of("valley 14;player 0 0 9;player 0 1 9;player 0 0 8;player 2 0 4;");
        due("may()", x.may(), 9);
        x.hits(0);
        due("may() on hill 1", x.may(), 2);
        x.hits(1);
        x.hits(2);
        due("may(), it is down", x.may(), 0);
        due("may() of nobody", new TruthOver().may(), 0);
    }

    private static void row(TruthOver x, int players, int... want) {
        due("rally(" + players + ", -2)", x.rally(players, -2), want.length);
        for (int k = 0; k < want.length; k++) due("rally(" + players + ", " + k + ")", x.rally(players, k), want[k]);
        due("rally(" + players + ", " + want.length + ")", x.rally(players, want.length), -5);
        due("rally(" + players + ", 1000)", x.rally(players, 1000), -5);
    }

    private static void none(TruthOver x, int players) {
        due("rally(" + players + ", -2)", x.rally(players, -2), -6);
        due("rally(" + players + ", 0)", x.rally(players, 0), -6);
        due("rally(" + players + ", 99)", x.rally(players, 99), -6);
    }

    private static void rally() {
        TruthOver x = Due.of("valley 10;player 0 0 9;player 0 1 9;player 0 0 9;");
        row(x, 0);
        row(x, 1, 0);
        row(x, 4, 2);
        row(x, 2, 0, 1);
        row(x, 5, 0, 1, 2);
        row(x, 6, 2, 1);
        row(x, 7, 0, 1, 2);
        due("nothing is changed", x.count(2), 0);
        x.hits(2);
        row(x, 7, 1, 0, 1, 2);
        row(x, 5, 1, 0, 1, 2);
        // Hour 0 has the wind against him, hour 1 with him.
        x = Due.of("valley 10;wind 0 8;player 0 0 4;");
        row(x, 1, -1, 0);
        // Nobody comes first where an hour may be let go by.
        x = Due.of("valley 10;wind 4 4 0 0 0 8;player 0 0 5;player 5 1 1;player 0 0 1;");
        row(x, 4, -1, -1, -1, -1, -1, 2);
        // Player 2 can in hour 5 alone, player 0 in hours 0, 1 and 5, player 1 in all but hour 5.
        row(x, 6, -1, 0, -1, -1, 1, 2);
        row(x, 5, -1, 0, -1, -1, 1, 2);
    }

    private static void rallyEdges() {
        TruthOver x = Due.of("valley 15;player 5 0 1;player 5 1 1;player 5 0 1;");
        due("rally(-1, -2)", x.rally(-1, -2), -10);
        due("rally(8, -2)", x.rally(8, -2), -10);
        due("rally(1, -1)", x.rally(1, -1), -10);
        due("rally(1, -3)", x.rally(1, -3), -10);
        due("status(0)", x.status(0), 4);
        // Girls that carry it over from hour 18 on alone.
        int[] twenty = new int[20];
        java.util.Arrays.fill(twenty, -1);
        twenty[18] = 0;
        twenty[19] = 1;
        row(x, 3, twenty);
        none(x, 5);
        none(x, 7);
        x.hours(1);
        due("rally(5, -2) in hour 1", x.rally(5, -2), 20);
        due("rally(5, 19) in hour 1", x.rally(5, 19), 2);
        x.hits(0);
        due("it is down", x.now(3), 0);
        row(x, 0);
        none(x, 1);
        due("a rally that is none counts as no refusal", x.status(0) + x.status(1) + x.status(2), 4);
    }

    private static void lasts() {
        due("lasts() of nobody", new TruthOver().lasts(), 0);
        TruthOver x = Due.of("valley 10;player 0 0 9;");
        due("lasts() of one", x.lasts(), 1);
        x.player(0, 1, 9);
        due("lasts() of two", x.lasts(), 60);
        x = Due.of("valley 15;player 5 0 1;player 5 1 1;");
        due("lasts() by day", x.lasts(), 0);
        x.hours(18);
        due("lasts() from hour 18", x.lasts(), 6);
        x.hours(3);
        due("lasts() from hour 21", x.lasts(), 3);
        x.hits(0);
        due("lasts() from hour 22, from hill 1", x.lasts(), 2);
        x.hours(5);
        x.hits(1);
        due("lasts(), it is down", x.lasts(), 0);
    }

    private static void hills(TruthOver x, int longest, int... want) {
        due("place(-1)", x.place(-1), longest);
        for (int p = 0; p < want.length; p++) due("place(" + p + ")", x.place(p), want[p]);
    }

    private static void place() {
        hills(new TruthOver(), 0);
        due("place(0) of nobody", new TruthOver().place(0), -10);
        TruthOver x = Due.of("valley 10;player 0 1 9;player 0 1 9;player 0 1 9;");
        due("place(3)", x.place(3), -10);
        due("place(-2)", x.place(-2), -10);
        due("status(0)", x.status(0), 2);
        due("lasts() as they stand", x.lasts(), 0);
        hills(x, 60, 0, 0, 1);
        due("they stand as they stood", x.count(1), 3);
        x = Due.of("valley 10;player 0 1 9;player 0 1 1;player 0 1 9;");
        hills(x, 60, 0, 0, 1);
        x = Due.of("valley 10;player 0 1 1;player 0 1 9;player 0 1 9;player 1 0 1;");
        hills(x, 60, 0, 0, 1, 0);
        x = Due.of("valley 15;player 5 0 1;player 5 0 1;hours 18;");
        hills(x, 6, 0, 1);
        x = Due.of("valley 14;player 0 0 9;player 0 1 1;player 0 0 9;hit 0;");
        hills(x, 60, 0, 0, 1);
        x.picks(0);
        x.hits(1);
        due("it is down", x.now(3), 0);
        hills(x, 0, 0, 0, 0);
        // The cock is on hill 1 first: one alone should stand there.
        x = Due.of("valley 14;player 0 0 9;hit 0;");
        hills(x, 1, 1);
    }

    private static void beyondTheLastHour() {
        TruthOver x = Due.of("valley 14;wind 4 4 4 4 8;player 0 0 9;player 0 1 9;");
        for (int i = 0; i < 101; i++) x.hours(99);
        // 9999 is hour 3 of 6 and 15 of a day; 10000 is 4 and 16.
        due("hour 9999", x.count(2), 9999);
        due("reach(0, 1)", x.reach(0, 1), 18);
        due("reach(1, 1)", x.reach(1, 1), 10);
        due("may()", x.may(), 1);
        // In hour 10000 the wind keeps player 1 from it.
        row(x, 3, -1, 0, 1);
        due("lasts()", x.lasts(), 1);
        due("hits(0)", x.hits(0), -3);
        // Seed 0 has player 0 strike first.
        due("centuries(0, 1)", x.centuries(0, 1), 1);
    }
}
