/** Promises 8 to 14: hits, picks, cock, hours, undo, now, of. */
public final class StrokesTest {
    private static final Due DUE = new Due();

    public static void main(String[] args) {
        hits();
        picks();
        cock();
        hours();
        undo();
        now();
        of();
        DUE.end();
    }

    private static void due(String call, long got, long want) {
        DUE.due(call, got, want);
    }

    private static void hits() {
        // Without wind 15 less 1 is 14, and 10 less 1 is 9.
        TruthOver x = Due.of("valley 14;player 0 0 9;player 0 1 9;player 0 0 4;");
        due("hits(-1)", x.hits(-1), -2);
        due("hits(3)", x.hits(3), -2);
        due("hits(1) from the other hill", x.hits(1), -3);
        due("hits(0), just as far", x.hits(0), 1);
        due("it is on hill 1", x.now(2), 1);
        due("one is kept", x.now(4), 1);
        due("an hour is gone", x.count(2), 1);
        due("hits(0) again", x.hits(0), -3);
        due("hits(1)", x.hits(1), 1);
        due("two are kept", x.now(4), 2);
        due("it is on hill 0", x.now(2), 0);
        due("hits(2), too short", x.hits(2), 0);
        due("it is down", x.now(3), 0);
        due("where it was struck", x.now(2), 0);
        due("none is kept", x.now(4), 0);
        due("one drop", x.now(5), 1);
        due("the hour", x.count(2), 3);
        due("hits(0), it is down", x.hits(0), -3);
        due("hits(9), BAD ahead of NO", x.hits(9), -2);
        due("status(0)", x.status(0), 3);
        due("status(1)", x.status(1), 3);
        due("three may be undone", x.count(7), 3);
        x = Due.of("valley 14;player 0 0 9;");
        for (int i = 0; i < 101; i++) x.hours(i < 100 ? 99 : 98);
        due("hour 9998", x.count(2), 9998);
        due("hits(0) in hour 9998", x.hits(0), 1);
        due("hour 9999", x.count(2), 9999);
        x = Due.of("valley 14;player 0 0 9;");
        for (int i = 0; i < 101; i++) x.hours(99);
        due("hits(0) in hour 9999", x.hits(0), -3);
        windHelps();
    }

    private static void windHelps() {
        TruthOver x = Due.of("valley 16;wind 6 6;player 0 0 9;player 0 1 9;");
        due("hits(0), the wind helps by 2", x.hits(0), 1);
        due("hits(1), the wind helps by 0 less 2", x.hits(1), 0);
        x = Due.of("valley 16;wind 6 2;player 0 0 9;player 0 1 9;");
        due("hits(0), the wind helps by 2", x.hits(0), 1);
        due("hits(1), the wind of hour 1 helps from hill 1", x.hits(1), 1);
    }

    private static void picks() {
        TruthOver x = Due.of("valley 40;player 0 0 9;player 0 1 9;");
        due("picks(0), it is up", x.picks(0), -3);
        due("picks(2), BAD first", x.picks(2), -2);
        due("picks(-1)", x.picks(-1), -2);
        x.hits(0);
        due("picks(1)", x.picks(1), 1);
        due("it is up", x.now(3), 1);
        due("on hill 1", x.now(2), 1);
        due("no hour is gone for it", x.count(2), 1);
        due("picks(1) again", x.picks(1), -3);
        x.hits(1);
        due("picks(0)", x.picks(0), 2);
        due("on hill 0", x.now(2), 0);
        due("status(0)", x.status(0), 2);
        due("status(1)", x.status(1), 2);
    }

    private static void cock() {
        TruthOver x = Due.of("valley 40;player 0 0 9;");
        due("cock(5, 9)", x.cock(5, 9), 1);
        due("cock(0, 4)", x.cock(0, 4), 9);
        due("cock(-1, 1)", x.cock(-1, 1), -2);
        due("cock(6, 1)", x.cock(6, 1), -2);
        due("cock(0, 0)", x.cock(0, 0), -2);
        due("cock(0, 10)", x.cock(0, 10), -2);
        due("kind", x.now(0), 0);
        due("weight", x.now(1), 4);
        x.hits(0);
        due("cock(2, 3) while it is down", x.cock(2, 3), 4);
        due("kind", x.now(0), 2);
        due("it stays down", x.now(3), 0);
        due("each may be undone", x.count(7), 4);
        due("status(0)", x.status(0), 4);
    }

    private static void hours() {
        TruthOver x = new TruthOver();
        due("hours(0)", x.hours(0), -2);
        due("hours(-1)", x.hours(-1), -2);
        due("hours(100)", x.hours(100), -2);
        due("hours(1)", x.hours(1), 1);
        due("hours(99)", x.hours(99), 100);
        due("each is one that may be undone", x.count(7), 2);
        for (int i = 0; i < 99; i++) x.hours(99);
        due("hours(99), to the end", x.hours(99), 9999);
        due("hours(1) at the end", x.hours(1), 9999);
        due("undo() of that", x.undo(), 9999);
        due("undo() of the one ahead", x.undo(), 9901);
        due("hours(98)", x.hours(98), 9999);
        due("status(0)", x.status(0), 3);
    }

    private static void undo() {
        TruthOver x = Due.of("valley 14;player 0 0 9;player 0 1 1;");
        due("undo(), none may be", x.undo(), -3);
        x.hits(0);
        x.hits(1);
        x.picks(1);
        x.cock(3, 7);
        x.hours(5);
        due("count(7)", x.count(7), 5);
        due("undo() of hours", x.undo(), 2);
        due("undo() of a cock", x.undo(), 2);
        due("kind", x.now(0), 0);
        due("weight", x.now(1), 1);
        due("undo() of picking up", x.undo(), 2);
        due("down", x.now(3), 0);
        due("hill", x.now(2), 1);
        due("drops", x.now(5), 1);
        due("undo() of a drop", x.undo(), 1);
        due("up", x.now(3), 1);
        due("kept", x.now(4), 1);
        due("drops", x.now(5), 0);
        due("undo() of a stroke", x.undo(), 0);
        due("hill", x.now(2), 0);
        due("kept", x.now(4), 0);
        due("undo(), none is left", x.undo(), -3);
        due("status(1)", x.status(1), 2);
        for (int i = 0; i < 10; i++) x.hours(1 + i);
        due("8 at most", x.count(7), 8);
        for (int i = 0; i < 7; i++) x.undo();
        due("undo() of the eighth, as behind 1 and 2 hours", x.undo(), 3);
        due("undo() beyond", x.undo(), -3);
        x.seen(0, 0, 0);
        x.hours(4);
        x.forget(0);
        due("what else is told stays", x.undo(), 3);
        due("SEEN is not undone", x.count(4), 0);
    }

    private static void now() {
        TruthOver x = Due.of("valley 40;wind 1 7;cock 4 6;player 0 0 9;");
        due("now(-1)", x.now(-1), -10);
        due("now(7)", x.now(7), -10);
        due("status(0)", x.status(0), 2);
        int[] now = {4, 6, 0, 1, 0, 0, -3};
        for (int i = 0; i < now.length; i++) due("now(" + i + ")", x.now(i), now[i]);
        x.hits(0);
        int[] down = {4, 6, 0, 0, 0, 1, 3};
        for (int i = 0; i < down.length; i++) due("down: now(" + i + ")", x.now(i), down[i]);
        x.picks(1);
        int[] other = {4, 6, 1, 1, 0, 1, -3};
        for (int i = 0; i < other.length; i++) due("on hill 1: now(" + i + ")", x.now(i), other[i]);
    }

    /** How hard each kind hits with arm 4 (plain: 10) and arm 9 (plain: 15), by the hour. */
    private static void of() {
        TruthOver x = new TruthOver();
        due("of(0, 0), nobody is there", x.of(0, 0), -2);
        for (int kind = 0; kind < 6; kind++) x.player(kind, kind % 2, 4);
        x.player(1, 1, 9);
        due("of(-1, 0)", x.of(-1, 0), -2);
        due("of(7, 0)", x.of(7, 0), -2);
        due("of(0, -1)", x.of(0, -1), -2);
        due("of(0, 4)", x.of(0, 4), -2);
        due("of(6, 0)", x.of(6, 0), 1);
        due("of(6, 1)", x.of(6, 1), 1);
        due("of(6, 2)", x.of(6, 2), 9);
        due("of(6, 3), half cut up", x.of(6, 3), 8);
        int hour = 0;
        for (int h : new int[] {0, 5, 6, 7, 14, 17, 18, 21, 23, 24, 31, 42}) {
            if (h > hour) hour = x.hours(h - hour);
            int t = h % 24;
            int[] force = {10, 5, 15, t < 6 ? 0 : 5, t == 0 || t == 7 || t == 14 || t == 21 ? 1 : 10, t < 18 ? 15 : 19};
            for (int p = 0; p < 6; p++) due("of(" + p + ", 3) in hour " + h, x.of(p, 3), force[p]);
        }
        due("status(0)", x.status(0), 5);
    }
}
