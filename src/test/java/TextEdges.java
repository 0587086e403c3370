/** The terms of the text: items, tokens, each fault, and what a valley that is read takes the place of. */
final class TextEdges {
    private static final String HEAD = "valley 9;";
    private static final String FELL = "valley 9;player 0 0 1;hit 0;";
    private static final String SEVEN = HEAD + "player 0 0 9;".repeat(7);
    private final Edges e;

    TextEdges(Edges e) {
        this.e = e;
    }

    void run() {
        items();
        tokens();
        faults();
        e.terms("A VALLEY that is read takes the place of all but IMAGES, THE TEXT, THE FRACTION, STATUS", this::takesThePlace);
        e.terms("(SEEN ones, NOTES, MARKS none; nothing to undo).", this::noneOfThese);
    }

    /** It is read, so many items. */
    private TruthOver reads(String text, int items) {
        TruthOver x = Due.typed(Edges.rich(), text);
        int before = x.status(0) + x.status(1) + x.status(2);
        e.due("\"" + text + "\"", x.read(), items);
        e.due("\"" + text + "\", then all of STATUS", x.status(0) + x.status(1) + x.status(2), before);
        return x;
    }

    /** This, and then what begins with a token that can not stand there; all stays, STATUS too. */
    private void fault(String right, String wrong) {
        String text = right + wrong;
        e.answered("\"" + text + "\"", () -> Due.typed(Edges.rich(), text), TruthOver::read, -10 - right.length());
    }

    /** Numbers from the least to the most stand there, those beside them do not. */
    private void numbers(String right, int least, int most, String rest, int items) {
        for (int n = Math.max(0, least - 2); n <= most + 2; n++) {
            if (n < least || n > most) fault(right, n + rest);
            else if (n < least + 2 || n > most - 2) reads(right + n + rest, items);
        }
        fault(right, "-1" + rest);
    }

    // ---- items

    private void items() {
        e.terms("THE VALLEY is told by a TEXT (150 bytes at most) of ITEMS, each ended by ; :", this::asLongAsItMayBe);
        e.terms("valley WIDE (once, first of all);", () -> {
            numbers("valley ", 1, 40, ";", 1);
            e.due("valley 40; then count(3)", reads("valley 40;", 1).count(3), 40);
            fault(HEAD, "valley 9;");
            fault("", "cock 0 1;valley 9;");
            fault("valley 9 ", "9;");
        });
        e.terms("wind and 1 to 6 numbers (of hours 0, 1, .., each and 4: 0 .. 8);", this::winds);
        e.terms("cock KIND WEIGHT;", () -> {
            numbers(HEAD + "cock ", 0, 5, " 1;", 2);
            numbers(HEAD + "cock 0 ", 1, 9, ";", 2);
            e.cock("cock 5 9;", reads(HEAD + "cock 0 1;cock 5 9;", 3), 5, 9, 0, 1, 0, 0);
            fault(HEAD + "cock 5", ";");
            fault(HEAD + "cock 5 9 ", "1;");
        });
        e.terms("player KIND HILL ARM;", this::players);
        e.terms("hit p;", () -> {
            numbers(HEAD + "player 0 0 9;player 0 0 9;hit ", 0, 1, ";", 4);
            numbers(SEVEN + "hit ", 0, 6, ";", 9);
            e.cock("over", reads("valley 14;player 0 0 9;hit 0;", 3), 0, 1, 1, 1, 1, 0);
            e.cock("short", reads("valley 15;player 0 0 9;hit 0;", 3), 0, 1, 0, 0, 0, 1);
            fault(HEAD + "player 0 0 9;hit 0 ", "0;");
        });
        e.terms("pick h;", () -> {
            numbers(FELL + "pick ", 0, 1, ";", 4);
            e.cock("pick 0;", reads(FELL + "pick 0;", 4), 0, 1, 0, 1, 0, 1);
            e.cock("pick 1;", reads(FELL + "pick 1;", 4), 0, 1, 1, 1, 0, 1);
        });
        e.terms("hours n (1 .. 99).", () -> {
            for (int n : new int[] {1, 2, 98, 99}) e.due("count(2)", reads(HEAD + "hours " + n + ";", 2).count(2), n);
            fault(HEAD + "hours ", "0;");
            fault(HEAD + "hours ", "00;");
            fault(HEAD + "hours ", "100;");
            // As many as a text can tell.
            e.due("count(2)", reads(HEAD + "hours 99;".repeat(15), 16).count(2), 1485);
        });
    }

    private void asLongAsItMayBe() {
        String most = SEVEN + "hours 99;".repeat(5);
        String filled = most + " ".repeat(150 - most.length());
        e.due("its own length", filled.length(), 150);
        reads(filled, 13);
        reads(most.substring(0, most.length() - 1) + " ".repeat(150 - most.length()) + ";", 13);
        TruthOver x = Due.typed(Edges.rich(), filled);
        e.due("a 151st byte", x.type(';'), -4);
        e.due("read() without it", x.read(), 13);
        String whole = "valley 9;wind 0 1 2 3 4 5;cock 0 1;player 0 0 1;hit 0;pick 0;hours 1;";
        reads(whole, 7);
        for (int i = whole.indexOf(';'); i >= 0; i = whole.indexOf(';', i + 1)) {
            String right = whole.substring(0, i);
            fault(right, "");
            if (i + 1 < whole.length()) fault(right + " ", whole.substring(i + 1));
        }
    }

    private void winds() {
        numbers(HEAD + "wind ", 0, 8, ";", 2);
        numbers(HEAD + "wind 4 4 4 4 4 ", 0, 8, ";", 2);
        fault(HEAD + "wind ", ";");
        fault(HEAD + "wind 0 1 2 3 4 5 ", "6;");
        int[][] told = {{-4}, {4, -4}, {-3, 3, 0}, {1, 2, 3, 4}, {4, 4, 4, 4, 4}, {-4, -3, -2, 2, 3, 4}};
        for (int[] winds : told) {
            String text = HEAD + "wind";
            for (int w : winds) text += " " + (w + 4);
            TruthOver x = reads(text + ";", 2);
            for (int h = 0; h < 6; h++) {
                e.due(text + "; then wind(" + h + ", 0)", x.wind(h, 0), h < winds.length ? winds[h] : 0);
            }
        }
        TruthOver x = reads(HEAD + "wind 0 1 2 3 8 8;wind 5 6;", 3);
        int[] again = {1, 2, -2, -1, 4, 4};
        for (int h = 0; h < 6; h++) e.due("wind again: wind(" + h + ", 0)", x.wind(h, 0), again[h]);
    }

    private void players() {
        numbers(HEAD + "player ", 0, 5, " 0 1;", 2);
        numbers(HEAD + "player 0 ", 0, 1, " 1;", 2);
        numbers(HEAD + "player 0 0 ", 1, 9, ";", 2);
        fault(HEAD + "player 0 0", ";");
        fault(HEAD + "player 0 0 1 ", "1;");
        TruthOver x = reads(HEAD + "player 5 1 9;player 0 0 1;", 3);
        int[][] of = {{5, 1, 9}, {0, 0, 1}};
        for (int p = 0; p < 2; p++) {
            for (int what = 0; what < 3; what++) e.due("of(" + p + ", " + what + ")", x.of(p, what), of[p][what]);
        }
        e.due("count(0)", x.count(0), 2);
    }

    // ---- tokens

    private void tokens() {
        e.terms("TOKENS: words of letters a .. z,", () -> {
            for (char c : new char[] {'`', '{', '@', 'A', 'V', 'Z', '['}) {
                fault("", c + "valley 9;");
                fault("valley", c + " 9;");
                fault(HEAD, c + "cock 0 1;");
            }
            fault("", "avalley 9;");
            fault("", "valleyz 9;");
            fault("", "zalley 9;");
            fault(HEAD, "cocka 0 1;");
            fault(HEAD, "pic 0;");
        });
        e.terms("figures (1 or 2 are one number),", () -> {
            reads("valley 01;", 1);
            e.due("valley 09; then count(3)", reads("valley 09;", 1).count(3), 9);
            e.due("valley 10; then count(3)", reads("valley 10;", 1).count(3), 10);
            e.cock("cock 05 09;", reads(HEAD + "cock 05 09;", 2), 5, 9, 0, 1, 0, 0);
            fault(HEAD + "cock ", "11;");
            fault(HEAD + "wind ", "012;");
            fault("valley ", "/9;");
            fault("valley ", ":9;");
            fault("valley 9", "/;");
            fault("valley 9", ":;");
        });
        e.terms("; ; blanks (32) between.", () -> {
            reads("   valley   9   ;   cock   0   1   ;   ", 2);
            reads("valley9;cock0 1;", 2);
            reads("valley 9;wind 1 2;", 2);
            e.due("wind 12 is one number", Due.read(new TruthOver(), "valley 9;wind 12;"), -24);
            for (char c : new char[] {0, 9, 10, 13, 31, 33, 127}) {
                fault("valley", c + "9;");
                fault("", c + HEAD);
                fault(HEAD, "" + c);
            }
        });
    }

    // ---- faults

    private void faults() {
        e.terms("FAULT: the place of the first byte of the first TOKEN that can not stand there", () -> {
            fault("valley ", "cock;;;");
            fault("valley   ", "0;");
            fault("  valley 9;  hours  ", "0 0;");
            fault(HEAD + "cock ", "6 10;wind 9;");
            fault(" ", "x valley");
        });
        e.terms("(a word that is none,", () -> {
            fault("", "hill 9;");
            fault("", "a");
            for (String word : new String[] {"hits", "picks", "hour", "winds", "players", "cocks", "v", "undo"}) {
                fault(HEAD, word + " 0;");
            }
            fault("valley ", "nine;");
            fault(HEAD + "hours 1 ", "more;");
            fault(HEAD + "hours ", "a;");
            fault(HEAD + "hours ", "z;");
            fault("valley ", "a;");
        });
        e.terms("valley again,", () -> {
            fault(HEAD, "valley 9;");
            fault(HEAD + "hours 1;", "valley");
            fault("valley ", "valley 9;");
            fault(HEAD + "cock ", "valley");
        });
        e.terms("anything ahead of it,", () -> {
            for (String item : new String[] {"wind 4;", "cock 0 1;", "player 0 0 1;", "hit 0;", "pick 0;", "hours 1;"}) {
                fault("", item + HEAD);
                fault("  ", item + HEAD);
            }
            fault("", "9;" + HEAD);
            fault("", ";" + HEAD);
        });
        e.terms("an 8th player at its word,", () -> {
            reads(SEVEN, 8);
            fault(SEVEN, "player 0 0 1;");
            fault(SEVEN, "player 9");
            fault(SEVEN, "player");
            fault(SEVEN + "hours 1;", "player 0 0 1;");
        });
        e.terms("a 7th number,", () -> {
            reads(HEAD + "wind 0 1 2 3 4 5;", 2);
            fault(HEAD + "wind 0 1 2 3 4 5 ", "0;");
            fault(HEAD + "wind 0 1 2 3 4 5 ", "99;");
            fault(HEAD + "wind 0 1 2 3 4 5 ", "123;");
        });
        e.terms("; where there is none,", () -> {
            fault("", ";");
            fault(HEAD, ";");
            fault(HEAD + " ", ";;");
            fault("valley ", ";");
            fault(HEAD + "wind", ";");
            fault(HEAD + "cock", ";");
            fault(HEAD + "cock 0", ";");
            fault(HEAD + "player", ";");
            fault(HEAD + "player 0", ";");
            fault(HEAD + "player 0 0", ";");
            fault(HEAD + "player 0 0 9;hit", ";");
            fault(FELL + "pick", ";");
            fault(HEAD + "hours", ";");
        });
        e.terms("a pick at its word, if it is UP,", () -> {
            fault(HEAD, "pick 0;");
            fault(HEAD, "pick 9;");
            fault(HEAD, "pick");
            fault(FELL + "pick 0;", "pick 0;");
            fault(HEAD + "player 0 0 9;hit 0;", "pick 0;");
            reads(FELL + "pick 0;hit 0;pick 1;", 6);
        });
        e.terms("a run of three figures or more (at its first one),", () -> {
            for (String run : new String[] {"009", "010", "123", "0001", "99999999999999999999"}) {
                fault("valley ", run + ";");
                fault(HEAD + "wind 1 ", run + ";");
                fault(HEAD + "hours ", run + ";");
                fault(HEAD, run);
            }
            fault(HEAD + "player 0 0 9;hit ", "000;");
            fault(FELL + "pick ", "001;");
        });
        e.terms("a number not as told,", () -> {
            fault("valley ", "0;");
            fault("valley ", "41;");
            fault(HEAD + "wind ", "9;");
            fault(HEAD + "wind 8 ", "9 9;");
            fault(HEAD + "cock ", "6 0;");
            fault(HEAD + "cock 5 ", "0;");
            fault(HEAD + "cock 5 ", "10;");
            fault(HEAD + "player ", "6 2 0;");
            fault(HEAD + "player 5 ", "2 0;");
            fault(HEAD + "player 5 1 ", "0;");
            fault(HEAD + "player 5 1 ", "10;");
            fault(FELL + "pick ", "2;");
            fault(HEAD + "hours ", "0;");
        });
        e.terms("also a PLAYER that is not there yet,", () -> {
            fault(HEAD + "hit ", "0;");
            fault(HEAD + "player 0 0 9;hit ", "1;");
            fault(HEAD + "player 0 0 9;hit ", "99;");
            fault(HEAD + "hit ", "0;player 0 0 9;");
            reads(HEAD + "player 0 1 9;player 0 0 9;hit 1;", 4);
            fault(SEVEN + "hit ", "7;");
        });
        e.terms("or can make no STROKE,", () -> {
            fault(HEAD + "player 0 1 9;hit ", "0;");
            fault(HEAD + "player 0 0 9;hit 0;hit ", "0;");
            fault(FELL + "hit ", "0;");
            reads(HEAD + "player 0 0 9;player 0 1 9;hit 0;hit 1;hit 0;", 6);
        });
        e.terms("a byte that begins none, too);", () -> {
            for (char c : new char[] {0, 1, 9, 10, 31, 33, '-', '+', '.', ',', '/', ':', '<', '@', 'A', 'Z', '[', '`', '{', 127}) {
                fault("", "" + c);
                fault("valley 9", "" + c);
                fault(HEAD, c + "cock 0 1;");
                fault(HEAD + "cock 0", c + "1;");
            }
        });
        e.terms("the TEXT's length, if it ends too early (an empty one, too).", this::endsTooEarly);
    }

    private void endsTooEarly() {
        fault("", "");
        fault(" ", "");
        fault(" ".repeat(150), "");
        int items = 0;
        String before = "";
        for (String item : "valley 9;wind 1 2;cock 1 2;player 0 0 1;hit 0;pick 1;hours 30;".split("(?<=;)")) {
            String part = before;
            for (String token : item.split("(?=[ ;])")) {
                part += token;
                if (!token.equals(";")) {
                    fault(part, "");
                    fault(part + "  ", "");
                }
            }
            before += item;
            items++;
            reads(before, items);
            reads(before + "  ", items);
        }
    }

    // ---- what it takes the place of

    private void takesThePlace() {
        TruthOver x = Edges.full();
        x.status(9);
        x.undo();
        int[] status = {x.status(0), x.status(1), x.status(2)};
        long[] fraction = {x.part(0), x.part(1)};
        Due.typed(x, "valley 12;");
        e.due("read()", x.read(), 1);
        int[] counts = {0, 0, 0, 12, 0, 0, 0, 0, 10};
        for (int i = 0; i < counts.length; i++) e.due("count(" + i + ")", x.count(i), counts[i]);
        e.cock("as at first", x, 0, 1, 0, 1, 0, 0);
        for (int h = 0; h < 6; h++) e.due("wind(" + h + ", 0)", x.wind(h, 0), 0);
        for (int i = 0; i < 2; i++) e.due("part(" + i + ") stays", x.part(i), fraction[i]);
        for (int i = 0; i < 3; i++) e.due("status(" + i + ") stays", x.status(i), status[i]);
        e.due("THE TEXT stays: read() again", x.read(), 1);
        TruthOver y = Edges.rich();
        y.from(0);
        x.from(0);
        for (int i = 0; i < 8; i++) e.due("IMAGE 0 stays: count(" + i + ")", x.count(i), y.count(i));
        y.from(1);
        x.from(1);
        for (int i = 0; i < 8; i++) e.due("IMAGE 1 stays: count(" + i + ")", x.count(i), y.count(i));
    }

    private void noneOfThese() {
        TruthOver x = Edges.full();
        for (int what = 4; what <= 6; what++) e.due("ahead: count(" + what + ")", x.count(what), what == 4 ? 5 : 6);
        // A stroke, a picking up, a re-feathering and hours of a text are none that may be undone.
        Due.typed(x, FELL + "pick 1;cock 2 3;hours 4;player 0 0 9;");
        e.due("read()", x.read(), 7);
        for (int what = 4; what <= 7; what++) e.due("count(" + what + ")", x.count(what), 0);
        e.due("undo()", x.undo(), -3);
        e.due("heavy(0)", x.heavy(0), 9);
        e.due("is()", x.is(), 63);
        e.due("kinds(0)", x.kinds(0), 63);
    }
}
