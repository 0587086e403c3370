/** Promises 1 to 7: a new object, valley, wind, player, type, clear, read. */
public final class ValleyTest {
    private static final Due DUE = new Due();

    public static void main(String[] args) {
        newObject();
        valley();
        wind();
        player();
        typeAndClear();
        readWhole();
        readFaults();
        readKeepsAndReplaces();
        DUE.end();
    }

    private static void due(String call, long got, long want) {
        DUE.due(call, got, want);
    }

    private static void newObject() {
        TruthOver x = new TruthOver();
        int[] counts = {0, 0, 0, 10, 0, 0, 0, 0, 0};
        for (int i = 0; i < counts.length; i++) due("new: count(" + i + ")", x.count(i), counts[i]);
        int[] now = {0, 1, 0, 1, 0, 0, 0};
        for (int i = 0; i < now.length; i++) due("new: now(" + i + ")", x.now(i), now[i]);
        for (int h = 0; h < 6; h++) due("new: wind(" + h + ", 0)", x.wind(h, 0), 0);
        due("new: part(0)", x.part(0), 0);
        due("new: part(1)", x.part(1), 1);
        for (int i = 0; i < 3; i++) due("new: status(" + i + ")", x.status(i), 0);
        due("new: from(0)", x.from(0), -3);
        due("new: from(1)", x.from(1), -3);
        due("new: undo()", x.undo(), -3);
    }

    private static void valley() {
        TruthOver x = Due.of("valley 7;wind 1 2 3;cock 3 4;player 0 0 9;player 1 1 3;hit 0;");
        x.hours(5);
        x.seen(0, 1, 1);
        x.note(1, 2, 3, 4);
        x.mark(1, 2, 3, 4);
        x.gusts(0, 5);
        long above = x.part(0);
        long below = x.part(1);
        int bytes = x.count(8);
        x.image(1);
        x.status(9);
        due("valley(0)", x.valley(0), -2);
        due("valley(41)", x.valley(41), -2);
        due("valley(-1)", x.valley(-1), -2);
        due("refused: players stay", x.count(0), 2);
        due("valley(40)", x.valley(40), 2);
        due("valley(1)", x.valley(1), 0);
        int[] counts = {0, 0, 0, 1, 0, 0, 0, 0, bytes};
        for (int i = 0; i < counts.length; i++) due("valley: count(" + i + ")", x.count(i), counts[i]);
        int[] now = {0, 1, 0, 1, 0, 0, 0};
        for (int i = 0; i < now.length; i++) due("valley: now(" + i + ")", x.now(i), now[i]);
        for (int h = 0; h < 6; h++) due("valley: wind(" + h + ", 0)", x.wind(h, 0), 0);
        due("valley: part(0) stays", x.part(0), above);
        due("valley: part(1) stays", x.part(1), below);
        due("valley: status(0) stays", x.status(0), 4);
        due("valley: images stay", x.from(1), 1);
        due("from the image: players", x.count(0), 2);
    }

    private static void wind() {
        TruthOver x = new TruthOver();
        due("wind(0, 4)", x.wind(0, 4), 0);
        due("wind(5, -4)", x.wind(5, -4), 0);
        due("wind(0, -1)", x.wind(0, -1), 4);
        due("wind(-1, 0)", x.wind(-1, 0), -10);
        due("wind(6, 0)", x.wind(6, 0), -10);
        due("wind(0, 5)", x.wind(0, 5), -10);
        due("wind(0, -5)", x.wind(0, -5), -10);
        due("wind(5, 2)", x.wind(5, 2), -4);
        due("wind(0, 0)", x.wind(0, 0), -1);
        due("wind: four were BAD", x.status(0), 4);
        x.hours(1);
        due("wind: refused, it may be undone", x.wind(9, 9), -10);
        due("count(7)", x.count(7), 1);
        x.wind(0, 0);
        due("behind a wind told none may be undone", x.count(7), 0);
        due("undo()", x.undo(), -3);
        x.wind(0, 3);
        x.wind(1, -2);
        x.valley(10);
        x.wind(0, 3);
        x.wind(1, -2);
        due("now(6) in hour 0", x.now(6), 3);
        x.hours(6);
        due("now(6) in hour 6", x.now(6), 3);
        x.hours(1);
        due("now(6) in hour 7", x.now(6), -2);
    }

    private static void player() {
        TruthOver x = new TruthOver();
        due("player(-1, 0, 1)", x.player(-1, 0, 1), -2);
        due("player(6, 0, 1)", x.player(6, 0, 1), -2);
        due("player(0, -1, 1)", x.player(0, -1, 1), -2);
        due("player(0, 2, 1)", x.player(0, 2, 1), -2);
        due("player(0, 0, 0)", x.player(0, 0, 0), -2);
        due("player(0, 0, 10)", x.player(0, 0, 10), -2);
        for (int i = 0; i < 7; i++) {
            x.hours(1);
            due("player " + i, x.player(i % 6, i % 2, i + 1), i);
            due("behind a player that comes none may be undone", x.count(7), 0);
        }
        x.hours(1);
        due("an eighth", x.player(0, 0, 1), -4);
        due("an eighth, BAD first", x.player(6, 0, 1), -2);
        due("refused, it may be undone", x.count(7), 1);
        due("status(0)", x.status(0), 7);
        due("status(2)", x.status(2), 1);
        for (int i = 0; i < 7; i++) {
            due("of(" + i + ", 0)", x.of(i, 0), i % 6);
            due("of(" + i + ", 1)", x.of(i, 1), i % 2);
            due("of(" + i + ", 2)", x.of(i, 2), i + 1);
        }
    }

    private static void typeAndClear() {
        TruthOver x = new TruthOver();
        due("type(-1)", x.type(-1), -2);
        due("type(128)", x.type(128), -2);
        due("clear()", x.clear(), 0);
        due("type(0)", x.type(0), 1);
        due("type(127)", x.type(127), 2);
        due("clear()", x.clear(), 2);
        for (int i = 1; i <= 150; i++) due("type, the " + i + "th", x.type('a'), i);
        due("type, the 151st", x.type('a'), -4);
        due("type, BAD ahead of FULL", x.type(128), -2);
        due("count(8)", x.count(8), 150);
        due("status(0)", x.status(0), 3);
        due("status(2)", x.status(2), 1);
        due("clear()", x.clear(), 150);
        due("count(8)", x.count(8), 0);
        due("type", x.type('b'), 1);
    }

    private static void reads(String text, int want) {
        TruthOver x = new TruthOver();
        due("read() of \"" + text + "\"", Due.read(x, text), want);
        due("a read counts as no refusal", x.status(0) + x.status(1) + x.status(2), 0);
    }

    private static void readWhole() {
        reads("valley 9;", 1);
        reads("valley9;", 1);
        reads("  valley  09 ;  ", 1);
        reads("valley 1;", 1);
        reads("valley 40;", 1);
        reads("valley 9;wind 0;wind 8 8 8 8 8 8;", 3);
        reads("valley 9;hours 99;hours 1;hours 01;", 4);
        reads("valley 9;cock 0 1;cock 5 9;cock 3 4;", 4);
        reads("valley 9;player 0 0 1;hit 0;pick 1;", 4);
        // Hour 0: 13 and 1 less 2, 2 more is 14; hour 5: 20 less 2, 2 more is 20: both are over.
        reads("valley 8;wind 4 0 8;wind 5;cock 1 2;player 0 0 7;player 5 1 9;hit 0;hours 4;hit 1;pick 1;", -92);
        TruthOver x = Due.of("valley 8;wind 4 0 8;wind 5;cock 1 2;player 0 0 7;player 5 1 9;hit 0;hours 4;hit 1;hit 0;");
        int[] now = {1, 2, 1, 1, 3, 0};
        for (int i = 0; i < now.length; i++) due("read: now(" + i + ")", x.now(i), now[i]);
        int[] counts = {2, 1, 7, 8, 0, 0, 0, 0};
        for (int i = 0; i < counts.length; i++) due("read: count(" + i + ")", x.count(i), counts[i]);
        due("read: wind of hour 0", x.wind(0, 0), 1);
        due("read: wind of hour 1", x.wind(1, 0), -4);
        due("read: wind of hour 2", x.wind(2, 0), 4);
        due("read: wind of hour 3", x.wind(3, 0), 0);
        x = Due.of("valley 20;player 0 0 9;hit 0;pick 1;hours 2;");
        due("read: a drop, KEPT", x.now(4), 0);
        due("read: a drop, DROPS", x.now(5), 1);
        due("read: picked up on", x.now(2), 1);
        due("read: picked up", x.now(3), 1);
        due("read: the hour", x.count(2), 3);
    }

    private static void readFaults() {
        reads("", -10);
        reads(" ", -11);
        reads("   ", -13);
        reads("wind 4;", -10);
        reads(" cock 0 1;", -11);
        reads("9", -10);
        reads(";", -10);
        reads("vall", -10);
        reads("valleys 1;", -10);
        reads("VALLEY 1;", -10);
        reads("valley", -16);
        reads("valley ", -17);
        reads("valley 9", -18);
        reads("valley 9 ", -19);
        reads("valley ;", -17);
        reads("valley valley", -17);
        reads("valley 0;", -17);
        reads("valley 41;", -17);
        reads("valley 123;", -17);
        reads("valley 009;", -17);
        reads("valley -1;", -17);
        reads("valley 9 9;", -19);
        reads("valley 9 cock 0 1;", -19);
        reads("valley 9;;", -19);
        reads("valley 9;7", -19);
        reads("valley 9;123", -19);
        reads("valley 9;\t", -19);
        reads("valley 9;valley 9;", -19);
        reads("valley 9; stone 1;", -20);
        reads("valley 9;cocks 0 1;", -19);
        reads("valley 9;cock", -23);
        reads("valley 9;cock ;", -24);
        reads("valley 9;cock 6 1;", -24);
        reads("valley 9;cock 5 0;", -26);
        reads("valley 9;cock 5 10;", -26);
        reads("valley 9;cock 1 2 3;", -28);
        reads("valley 9;cock 1;", -25);
        reads("valley 9;wind ;", -24);
        reads("valley 9;wind 9;", -24);
        reads("valley 9;wind 8 9;", -26);
        reads("valley 9;wind 1 2 3 4 5 6 7;", -36);
        reads("valley 9;wind 1 2 3 4 5 6 x", -36);
        reads("valley 9;wind 1 2", -27);
        reads("valley 9;player 6 0 1;", -26);
        reads("valley 9;player 0 2 1;", -28);
        reads("valley 9;player 0 0 0;", -30);
        reads("valley 9;player 0 0 10;", -30);
        reads("valley 9;player 0 0;", -29);
        String seven = "valley 9;" + "player 0 0 1;".repeat(7);
        reads(seven, 8);
        reads(seven + "player", -110);
        reads(seven + "players", -110);
        reads(seven + "hours 2;player 0 0 1;", -118);
        reads("valley 9;hit 0;", -23);
        reads("valley 9;hit ;", -23);
        reads("valley 9;player 0 0 9;hit 1;", -36);
        reads("valley 9;player 0 1 9;hit 0;", -36);
        reads("valley 9;player 0 0 9;hit 0;hit 0;", -42);
        reads("valley 9;player 0 0 1;hit 0;hit 0;", -42);
        reads("valley 9;player 0 0 9;hit 0 0;", -38);
        reads("valley 9;pick 0;", -19);
        reads("valley 9;pick", -19);
        reads("valley 9;player 0 0 1;hit 0;pick 2;", -43);
        reads("valley 9;player 0 0 1;hit 0;pick 0;pick 0;", -45);
        reads("valley 9;hours 0;", -25);
        reads("valley 9;hours 100;", -25);
        reads("valley 9;hours 9", -26);
        reads("valley 9;hours 9a;", -26);
        wordsThatAreNone();
        endsTooEarly();
    }

    private static void wordsThatAreNone() {
        reads("balley 9;", -10);
        reads("avalley 9;", -10);
        reads("valleyz 9;", -10);
        for (String word : new String[] {"hitz", "zhit", "hix", "bit", "wine", "lock", "prayer", "sick", "tours", "a"}) {
            reads("valley 9;" + word + " 0;", -19);
        }
    }

    /** All of it but the ; at the end of each item: the fault is the length. */
    private static void endsTooEarly() {
        String whole = "valley 9;wind 1 2 3;cock 1 2;player 0 0 1;hit 0;pick 1;hours 30;";
        reads(whole, 7);
        String before = "";
        for (String item : whole.split(";")) {
            String part = before;
            for (String word : item.split(" ")) {
                part += word + " ";
                reads(part, -10 - part.length());
                reads(part.trim(), -10 - part.trim().length());
            }
            before += item + ";";
        }
    }

    private static void readKeepsAndReplaces() {
        TruthOver x = Due.of("valley 9;player 0 0 9;");
        x.hits(0);
        x.seen(0, 1, 1);
        x.note(1, 2, 3, 4);
        x.mark(0, 2, 3, 4);
        Due.typed(x, "valley 12;cock 2 2;hours 3; oh");
        long before = x.digest();
        due("read() at fault", x.read(), -10 - 28);
        due("at fault all stays", x.digest(), before);
        due("at fault it may be undone", x.count(7), 1);
        x.gusts(0, 0);
        x.status(-1);
        x.image(0);
        due("read()", Due.read(x, "valley 12;cock 2 3;hours 3;"), 3);
        int[] counts = {0, 0, 3, 12, 0, 0, 0, 0, 27};
        for (int i = 0; i < counts.length; i++) due("taken: count(" + i + ")", x.count(i), counts[i]);
        due("THE FRACTION stays", x.part(0), 1);
        due("STATUS stays", x.status(0), 1);
        due("nothing to undo", x.undo(), -3);
        due("IMAGES stay", x.from(0), 1);
        due("from the image: WIDE", x.count(3), 9);
        due("from the image: THE TEXT is as it was", x.count(8), 27);
        due("read() again", x.read(), 3);
    }
}
