/** Promises 33 to 38: part, image, from, status, count, digest. */
public final class ThereTest {
    private static final Due DUE = new Due();

    public static void main(String[] args) {
        part();
        images();
        imagesKeepAll();
        imagesKeepWhatMayBeUndone();
        status();
        count();
        digest();
        DUE.end();
    }

    private static void due(String call, long got, long want) {
        DUE.due(call, got, want);
    }

    private static void part() {
        TruthOver x = new TruthOver();
        due("part(0)", x.part(0), 0);
        due("part(1)", x.part(1), 1);
        due("part(-1)", x.part(-1), -2);
        due("part(2)", x.part(2), -2);
        due("status(0)", x.status(0), 2);
        x.player(0, 0, 5);
        x.gusts(0, 8);
        due("part(0)", x.part(0), 1);
        due("part(1)", x.part(1), 5);
    }

    private static void images() {
        TruthOver x = new TruthOver();
        due("image(-1)", x.image(-1), -2);
        due("image(2)", x.image(2), -2);
        due("from(-1)", x.from(-1), -2);
        due("from(2)", x.from(2), -2);
        due("from(0)", x.from(0), -3);
        due("status(0)", x.status(0), 4);
        due("status(1)", x.status(1), 1);
        x.hours(3);
        due("image(1)", x.image(1), 1);
        due("from(0), none was kept there", x.from(0), -3);
        x.hours(4);
        due("image(0)", x.image(0), 1);
        x.hours(5);
        due("from(1)", x.from(1), 1);
        due("hour 3", x.count(2), 3);
        due("one may be undone", x.count(7), 1);
        due("undo()", x.undo(), 0);
        due("from(0)", x.from(0), 1);
        due("hour 7", x.count(2), 7);
        due("two may be undone", x.count(7), 2);
        due("from(1), as it was kept", x.from(1), 1);
        due("hour 3", x.count(2), 3);
        x.hours(9);
        due("image(1) again", x.image(1), 1);
        x.from(0);
        x.from(1);
        due("hour 12", x.count(2), 12);
        due("undo()", x.undo(), 3);
        due("undo()", x.undo(), 0);
    }

    private static void imagesKeepAll() {
        TruthOver x = Due.of("valley 9;wind 0 8;cock 3 2;player 5 0 9;player 4 1 3;");
        x.hits(0);
        x.seen(1, 99, 0);
        x.note(9, 30, -4, 99);
        x.mark(0, 9, 23, 30);
        x.gusts(0, 0);
        long before = x.digest();
        x.image(0);
        x.valley(30);
        x.player(0, 1, 1);
        x.wind(3, 3);
        x.seen(0, 1, 1);
        x.note(1, 1, 1, 1);
        x.mark(0, 1, 1, 1);
        x.cock(0, 9);
        due("from(0)", x.from(0), 1);
        due("all is as it was", x.digest(), before);
        // A vicar hits by 9: 8 far against the wind of hour 1, 12 without it.
        x.gusts(1, 3);
        due("part(0) now", x.part(0), 3);
        x.clear();
        x.status(7);
        x.from(0);
        due("THE FRACTION is not kept", x.part(0), 3);
        due("THE TEXT is not kept", x.count(8), 0);
        due("STATUS is not kept", x.status(0), 1);
        due("undo()", x.undo(), 0);
        due("hill", x.now(2), 0);
    }

    private static void imagesKeepWhatMayBeUndone() {
        TruthOver x = new TruthOver();
        x.hours(10);
        x.cock(1, 2);
        x.cock(2, 3);
        x.image(0);
        x.valley(5);
        for (int i = 0; i < 8; i++) x.hours(99);
        x.from(0);
        due("count(7)", x.count(7), 3);
        due("undo()", x.undo(), 10);
        due("kind", x.now(0), 1);
        due("undo()", x.undo(), 10);
        due("kind", x.now(0), 0);
        due("undo()", x.undo(), 0);
        due("undo(), none is left", x.undo(), -3);
        due("WIDE", x.count(3), 10);
    }

    private static void status() {
        TruthOver x = new TruthOver();
        due("status(-1)", x.status(-1), -1);
        due("status(3)", x.status(3), -1);
        due("status(0)", x.status(0), 2);
        due("status(1)", x.status(1), 0);
        due("status(2)", x.status(2), 0);
        x.undo();
        x.undo();
        x.undo();
        for (int i = 0; i < 8; i++) x.player(0, 0, 1);
        due("status(0)", x.status(0), 2);
        due("status(1)", x.status(1), 3);
        due("status(2)", x.status(2), 1);
        refusalsOfTen();
    }

    /** Answers of -10, -5 and -6: only the first are refusals. */
    private static void refusalsOfTen() {
        TruthOver x = new TruthOver();
        x.wind(9, 0);
        x.now(9);
        x.rally(1, -2);
        x.place(0);
        due("status(0)", x.status(0), 4);
        x.read();
        x.rally(0, 5);
        x.player(0, 0, 1);
        x.rally(1, -2);
        x.seen(0, 0, 1);
        x.heavy(1);
        x.tell(0);
        due("status(0)", x.status(0), 4);
        due("status(1)", x.status(1), 0);
        due("status(2)", x.status(2), 0);
    }

    private static void count() {
        TruthOver x = Due.of("valley 40;player 0 1 9;player 0 0 9;player 0 1 9;hours 7;");
        x.seen(0, 0, 0);
        x.seen(0, 0, 0);
        for (int i = 0; i < 5; i++) x.note(1, 0, 0, 0);
        for (int i = 0; i < 4; i++) x.mark(0, 1, 0, 0);
        for (int i = 0; i < 6; i++) x.cock(0, 1);
        int[] counts = {3, 2, 7, 40, 2, 5, 4, 6, 57};
        for (int i = 0; i < counts.length; i++) due("count(" + i + ")", x.count(i), counts[i]);
        due("count(-1)", x.count(-1), -2);
        due("count(9)", x.count(9), -2);
        due("status(0)", x.status(0), 2);
    }

    private static long fold(long... all) {
        long h = 1663;
        for (long v : all) h = 31 * h + v;
        return h;
    }

    private static void digest() {
        TruthOver x = new TruthOver();
        due("digest() of a new one", x.digest(), -8822222166069529702L);
        x.status(5);
        due("STATUS is not in it", x.digest(), -8822222166069529702L);
        x = Due.of("valley 9;wind 0 8;cock 3 2;player 5 0 9;player 4 1 3;");
        x.hits(0);
        x.seen(1, 99, 0);
        x.note(9, 30, -4, 98);
        x.mark(0, 9, 23, 30);
        x.gusts(0, 0);
        due("digest()", x.digest(), fold(2, 1, 1, 9, 1, 1, 1, 1, 53, 3, 2, 1, 1, 1, 0, -4, 4, 0, 0, 0, 0,
            5, 0, 9, 4, 1, 3, 1, 99, 0, 9, 30, -4, 98, 0, 9, 23, 30, 1, 1));
        due("digest() again", x.digest(), x.digest());
    }
}
