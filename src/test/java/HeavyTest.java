/** Promises 20 to 32: seen, heavy, tell, note, mark, forget, is, look, kinds, ask, yours, gusts, centuries. */
public final class HeavyTest {
    private static final Due DUE = new Due();

    public static void main(String[] args) {
        seen();
        heavy();
        tell();
        note();
        mark();
        forget();
        is();
        look();
        kindsAndAsk();
        yours();
        gusts();
        centuries();
        DUE.end();
    }

    private static void due(String call, long got, long want) {
        DUE.due(call, got, want);
    }

    private static void seen() {
        TruthOver x = new TruthOver();
        due("seen(0, 0, 0), nobody is there", x.seen(0, 0, 0), -2);
        x.player(0, 0, 9);
        due("seen(-1, 0, 0)", x.seen(-1, 0, 0), -2);
        due("seen(1, 0, 0)", x.seen(1, 0, 0), -2);
        due("seen(0, -1, 0)", x.seen(0, -1, 0), -2);
        due("seen(0, 100, 0)", x.seen(0, 100, 0), -2);
        due("seen(0, 0, -1)", x.seen(0, 0, -1), -2);
        due("seen(0, 0, 2)", x.seen(0, 0, 2), -2);
        for (int i = 1; i <= 5; i++) due("seen, the " + i + "th", x.seen(0, i == 5 ? 99 : 0, 1), i);
        due("seen, a sixth", x.seen(0, 0, 1), -4);
        due("seen, BAD ahead of FULL", x.seen(0, 0, 2), -2);
        due("count(4)", x.count(4), 5);
        due("status(0)", x.status(0), 8);
        due("status(2)", x.status(2), 1);
    }

    private static void weights(TruthOver x, int many, int least, int greatest) {
        due("heavy(0)", x.heavy(0), many);
        due("heavy(1)", x.heavy(1), least);
        due("heavy(2)", x.heavy(2), greatest);
    }

    private static void heavy() {
        TruthOver x = Due.of("valley 10;player 0 0 9;player 3 1 9;");
        due("heavy(-1)", x.heavy(-1), -2);
        due("heavy(3)", x.heavy(3), -2);
        due("status(0)", x.status(0), 2);
        weights(x, 9, 1, 9);
        // 15 less the weight is 10 or more.
        x.seen(0, 0, 1);
        weights(x, 5, 1, 5);
        x.wind(2, -2);
        x.seen(0, 98, 0);
        weights(x, 2, 4, 5);
        x.cock(0, 9);
        weights(x, 2, 4, 5);
        x.wind(2, 0);
        weights(x, 0, -1, -1);
        x.wind(2, -2);
        x.cock(1, 1);
        weights(x, 2, 6, 7);
        // An old one hits by 0 in hours 0 to 5 of a day, else by 8: a cork then flies 20 less three times its weight.
        x.valley(10);
        x.player(3, 1, 9);
        x.cock(5, 1);
        x.seen(0, 48, 0);
        weights(x, 9, 1, 9);
        x.seen(0, 54, 1);
        weights(x, 3, 1, 3);
        x.wind(0, 1);
        weights(x, 2, 1, 2);
        x.wind(0, -1);
        weights(x, 4, 1, 4);
        x.valley(10);
        x.cock(3, 1);
        x.player(0, 0, 2);
        // A rumour hit by 8: 13 less the weight, that of 1 or 2 only; else 10 less it.
        x.seen(0, 0, 0);
        weights(x, 7, 3, 9);
    }

    private static void tell() {
        TruthOver x = Due.of("valley 10;player 0 0 9;player 0 1 9;");
        due("tell(-1)", x.tell(-1), -2);
        due("tell(2)", x.tell(2), -2);
        due("status(0)", x.status(0), 2);
        due("tell(0), all alike", x.tell(0), 0);
        x.seen(0, 0, 1);
        due("tell(0), 5 of 5 always", x.tell(0), 0);
        x.wind(4, -4);
        due("tell(0), 4 of 5", x.tell(0), 4);
        x.wind(3, -3);
        x.wind(5, -2);
        due("tell(0), 3 of 5, the least of like ones", x.tell(0), 3);
        due("tell(1), whom it helps", x.tell(1), 0);
        x.wind(5, 2);
        x.wind(3, 0);
        due("tell(1), 3 of 5", x.tell(1), 5);
        x.seen(0, 0, 0);
        due("tell(0), no weight", x.tell(0), -1);
        x = Due.of("valley 10;player 5 0 1;");
        // Hit by 12: 2 of 9 weights are over; from hour 18 by 16: 6 of 9.
        due("tell(0) of a girl", x.tell(0), 18);
        x = Due.of("valley 12;player 4 0 9;");
        // Hit by 15: 3 of 9 are over, 6 short; at hours 0, 7, 14, 21 all are short.
        due("tell(0) of a vicar", x.tell(0), 1);
    }

    private static void note() {
        TruthOver x = new TruthOver();
        int[][] bad = {{0, 0, 0, 0}, {10, 0, 0, 0}, {1, -1, 0, 0}, {1, 31, 0, 0}, {1, 0, -5, 0}, {1, 0, 5, 0},
            {1, 0, 0, -1}, {1, 0, 0, 100}};
        for (int[] n : bad) due("note " + java.util.Arrays.toString(n), x.note(n[0], n[1], n[2], n[3]), -2);
        due("note(9, 30, -4, 99)", x.note(9, 30, -4, 99), 1);
        due("note(1, 0, 4, 0)", x.note(1, 0, 4, 0), 2);
        for (int i = 3; i <= 6; i++) due("note, the " + i + "th", x.note(1, 0, 0, 0), i);
        due("note, a seventh", x.note(1, 0, 0, 0), -4);
        due("note, BAD ahead of FULL", x.note(1, 31, 0, 0), -2);
        due("count(5)", x.count(5), 6);
        due("status(0)", x.status(0), 9);
        due("status(2)", x.status(2), 1);
    }

    private static void mark() {
        TruthOver x = new TruthOver();
        due("mark(0, 1, 0, 0), nobody is there", x.mark(0, 1, 0, 0), -2);
        x.player(0, 0, 1);
        int[][] bad = {{-1, 1, 0, 0}, {1, 1, 0, 0}, {0, 0, 0, 0}, {0, 10, 0, 0}, {0, 1, -1, 0}, {0, 1, 24, 0},
            {0, 1, 0, -1}, {0, 1, 0, 31}};
        for (int[] n : bad) due("mark " + java.util.Arrays.toString(n), x.mark(n[0], n[1], n[2], n[3]), -2);
        due("mark(0, 9, 23, 30)", x.mark(0, 9, 23, 30), 1);
        for (int i = 2; i <= 6; i++) due("mark, the " + i + "th", x.mark(0, 1, 0, 0), i);
        due("mark, a seventh", x.mark(0, 1, 0, 0), -4);
        due("mark, BAD ahead of FULL", x.mark(1, 1, 0, 0), -2);
        due("count(6)", x.count(6), 6);
        due("status(0)", x.status(0), 10);
        due("status(2)", x.status(2), 1);
    }

    private static void forget() {
        TruthOver x = Due.of("valley 10;player 0 0 9;");
        for (int i = 0; i < 3; i++) {
            x.seen(0, 0, 0);
            if (i < 2) x.note(1, 0, 0, 9);
        }
        x.mark(0, 1, 0, 9);
        due("forget(-1)", x.forget(-1), -2);
        due("forget(3)", x.forget(3), -2);
        due("forget(1)", x.forget(1), 2);
        due("seen ones stay", x.count(4), 3);
        due("marks stay", x.count(6), 1);
        due("is()", x.is(), 63);
        due("forget(0)", x.forget(0), 3);
        due("heavy(0)", x.heavy(0), 9);
        due("forget(2)", x.forget(2), 1);
        due("kinds(0)", x.kinds(0), 63);
        for (int i = 0; i < 3; i++) due("forget(" + i + ") again", x.forget(i), 0);
        due("status(0)", x.status(0), 2);
        due("players stay", x.count(0), 1);
    }

    private static void is() {
        TruthOver x = new TruthOver();
        due("is(), no notes", x.is(), 63);
        int[] far = {13, 15, 7, 18, 13, 28};
        int[] kinds = {17, 2, 4, 8, 17, 32};
        for (int i = 0; i < 6; i++) {
            x.note(2, 12, 3, far[i]);
            due("is(), flew " + far[i], x.is(), kinds[i]);
            x.forget(1);
        }
        x.note(9, 11, -4, 5);
        due("is(), half cut of 11", x.is(), 16);
        x.note(2, 12, 3, 13);
        due("is(), both", x.is(), 16);
        x.note(3, 20, 0, 19);
        due("is(), none", x.is(), 0);
        x.forget(1);
        x.note(3, 10, 0, 9);
        due("is(), hen and rumour of 3", x.is(), 10);
    }

    private static void look() {
        TruthOver x = new TruthOver();
        // x 8, w -4, weight 1: 3, 5, 2, 8, 4, 9.
        due("look(), all kinds", x.look(), 80);
        x.note(3, 10, 0, 9);
        due("look(), hen and rumour, weight 1", x.look(), 0);
        x.cock(0, 3);
        due("look(), hen and rumour, weight 3: never unlike", x.look(), 0);
        x.forget(1);
        x.note(2, 12, 3, 13);
        // Feather and oath, weight 3: the half of 2 is 1, where a feather flies 0 (x 2, w -4).
        due("look(), feather and oath", x.look(), 20);
        x.cock(0, 9);
        due("look() by weight 9", x.look(), 20);
        x.note(3, 20, 0, 20);
        due("look(), no kind", x.look(), -1);
        x.forget(1);
        x.note(9, 0, 0, 0);
        x.note(2, 3, 0, 1);
        x.cock(0, 1);
        // By x 6, w -3 a feather flies 2, snow 1, an oath 3.
        due("is()", x.is(), 21);
        due("look(), feather, snow and oath", x.look(), 61);
        x.forget(1);
        x.note(1, 2, 0, 3);
        due("is(), a hen", x.is(), 2);
        due("look(), one kind", x.look(), 0);
    }

    private static void kindsAndAsk() {
        TruthOver x = Due.of("valley 10;player 0 0 9;player 1 1 2;");
        due("kinds(-1)", x.kinds(-1), -2);
        due("kinds(2)", x.kinds(2), -2);
        due("ask(-1)", x.ask(-1), -2);
        due("ask(2)", x.ask(2), -2);
        due("status(0)", x.status(0), 4);
        due("kinds(0), no marks", x.kinds(0), 63);
        due("ask(0), no marks", x.ask(0), 0);
        x.mark(0, 1, 0, 12);
        due("kinds(0), hard or girl", x.kinds(0), 36);
        due("kinds(1), no marks of him", x.kinds(1), 63);
        due("ask(0), hard or girl", x.ask(0), 18);
        x.mark(1, 5, 6, 6);
        due("kinds(1), child or old", x.kinds(1), 10);
        due("kinds(0) as it was", x.kinds(0), 36);
        due("ask(1), child or old", x.ask(1), 0);
        x.mark(0, 1, 23, 16);
        due("kinds(0), girl", x.kinds(0), 32);
        due("ask(0), girl", x.ask(0), 0);
        x.mark(0, 1, 17, 16);
        due("kinds(0), none", x.kinds(0), 0);
        due("ask(0), none", x.ask(0), -1);
        x.forget(2);
        x.mark(0, 4, 22, 10);
        due("kinds(0), plain or vicar", x.kinds(0), 17);
        due("ask(0), plain or vicar", x.ask(0), 0);
        // A look that ended with a feather flying 1, as hard as a vicar hits: the next question is apart from it.
        x.cock(0, 3);
        x.note(1, 2, 0, 3);
        due("look(), a hen", x.look(), 0);
        due("ask(0) behind a look", x.ask(0), 0);
        x.forget(2);
        x.mark(0, 4, 14, 1);
        due("kinds(0), vicar", x.kinds(0), 16);
        x.forget(2);
        x.mark(0, 4, 5, 0);
        due("kinds(0), old", x.kinds(0), 8);
    }

    private static void yours() {
        TruthOver x = Due.of("valley 10;player 0 0 9;player 0 0 9;player 1 0 1;player 1 0 1;player 0 1 9;");
        due("yours(-1, 0)", x.yours(-1, 0), -2);
        due("yours(0, 5)", x.yours(0, 5), -2);
        due("yours(1, 1)", x.yours(1, 1), -2);
        due("yours(0, 4), on the other hill", x.yours(0, 4), -3);
        due("yours(4, 0), on the other hill", x.yours(4, 0), -3);
        due("yours(0, 1), both carry it", x.yours(0, 1), 6);
        due("yours(0, 2), a carries it", x.yours(0, 2), 2);
        due("yours(2, 0), b carries it", x.yours(2, 0), 4);
        due("yours(2, 3), neither does", x.yours(2, 3), 9);
        due("nothing is changed", x.count(2), 0);
        x.hits(2);
        due("yours(0, 1), it is down", x.yours(0, 1), -3);
        due("yours(0, 0), BAD ahead of NO", x.yours(0, 0), -2);
        due("status(0)", x.status(0), 4);
        due("status(1)", x.status(1), 3);
    }

    private static void fraction(TruthOver x, int p, int c, int above, int below) {
        due("gusts(" + p + ", " + c + ")", x.gusts(p, c), 1);
        due("gusts(" + p + ", " + c + "), part(0)", x.part(0), above);
        due("gusts(" + p + ", " + c + "), part(1)", x.part(1), below);
    }

    private static void gusts() {
        TruthOver x = Due.of("valley 10;player 0 0 5;player 0 1 1;player 2 0 9;player 1 0 1;");
        due("gusts(-1, 0)", x.gusts(-1, 0), -2);
        due("gusts(4, 0)", x.gusts(4, 0), -2);
        due("gusts(0, -1)", x.gusts(0, -1), -2);
        due("gusts(0, 11)", x.gusts(0, 11), -2);
        due("status(0)", x.status(0), 4);
        fraction(x, 0, 0, 1, 1);
        fraction(x, 0, 3, 7, 10);
        fraction(x, 0, 4, 3, 5);
        fraction(x, 0, 5, 1, 2);
        fraction(x, 0, 10, 0, 1);
        fraction(x, 1, 0, 0, 1);
        fraction(x, 1, 2, 1, 5);
        fraction(x, 1, 7, 7, 10);
        fraction(x, 2, 5, 1, 1);
        fraction(x, 3, 5, 0, 1);
        due("gusts(9, 0) changes nothing", x.gusts(9, 0), -2);
        due("part(1)", x.part(1), 1);
        // From -2 it goes to -4 only.
        x.wind(0, -2);
        x.player(0, 0, 9);
        x.player(0, 0, 8);
        fraction(x, 4, 5, 1, 1);
        fraction(x, 5, 5, 1, 2);
        // In hour 1 another wind is.
        x.wind(1, 4);
        x.hours(1);
        fraction(x, 0, 1, 1, 1);
    }

    private static void centuries() {
        TruthOver x = Due.of("valley 1;" + "player 2 0 9;player 2 1 9;".repeat(3) + "player 2 0 9;");
        due("centuries(-1, 0)", x.centuries(-1, 0), -2);
        due("centuries(1000000, 0)", x.centuries(1000000, 0), -2);
        due("centuries(0, -1)", x.centuries(0, -1), -2);
        due("centuries(0, 61)", x.centuries(0, 61), -2);
        due("status(0)", x.status(0), 4);
        // By seed 0 players 0, 6, 6, 4, 5, 1, 1, 1, 5, 3, 4, 4 are called.
        int[] over = {0, 1, 1, 1, 1, 2, 2, 2, 2, 2, 2, 3, 3};
        for (int n = 0; n < over.length; n++) due("centuries(0, " + n + ")", x.centuries(0, n), over[n]);
        // By seed 999999 players 2, 4, 6, 6, 5 are called.
        due("centuries(999999, 5)", x.centuries(999999, 5), 2);
        // One that is down is picked up on hills 0, 1, 0, 0, 0, 1, 0, 1, 1 by seed 0.
        x = Due.of("valley 10;" + "player 1 0 1;".repeat(2) + "player 2 0 9;".repeat(3) + "player 2 1 9;".repeat(2));
        int[] picked = {0, 0, 1, 1, 2, 3, 3, 3, 3, 4, 5, 5, 5};
        long before = x.digest();
        for (int n = 0; n < picked.length; n++) due("picked up: centuries(0, " + n + ")", x.centuries(0, n), picked[n]);
        due("nothing is changed", x.digest(), before);
        x.hits(0);
        // It is down: picked up on hill 0, player 0 drops it again; then as above.
        due("down: centuries(0, 2)", x.centuries(0, 2), 1);
        // By seed 1 players 3, 4, 5, 1, 6 are called; none of these is there but 1, on hill 0.
        x = Due.of("valley 10;player 1 0 1;player 2 0 9;player 1 0 1;hit 0;");
        // It is down: picked up on hill 0 in the first hour, it is up there until he is called.
        due("picked up once: centuries(1, 3)", x.centuries(1, 3), 0);
        due("picked up once: centuries(1, 4)", x.centuries(1, 4), 1);
        // By seed 0 players 6, 6, 4, 5, 1 behind the first: picked up on hill 1 in hour 1, it stays there.
        due("picked up once: centuries(0, 12)", x.centuries(0, 12), 0);
        // The wind of the hour in which he is called helps.
        x = Due.of("valley 20;wind 0 0 0 0 0 8;player 1 1 1;player 2 0 9;");
        due("by hours: centuries(0, 5)", x.centuries(0, 5), 0);
        due("by hours: centuries(0, 6)", x.centuries(0, 6), 1);
        due("centuries of nobody", new TruthOver().centuries(5, 60), 0);
    }
}
