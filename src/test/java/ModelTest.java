import java.util.Random;

/** Runs of drawn calls, each answer and each digest compared with the model's. */
public final class ModelTest {
    private static final String[] CALLS = {
        "valley", "wind", "player", "type", "clear", "read", "hits", "picks", "cock", "hours", "undo", "now", "of",
        "reach", "may", "rally", "lasts", "place", "seen", "heavy", "tell", "note", "mark", "forget", "is", "look",
        "kinds", "ask", "yours", "gusts", "centuries", "part", "image", "from", "status", "count"};
    private static final String[] BITS = {
        "valley", "valley ", "wind ", "cock ", "player ", "hit ", "pick ", "hours ", ";", " ", "0", "1", "5", "9", "12",
        "40", "123", "x", "A", "-", "hour", "\t"};

    private final Random random;
    private final int run;
    private final Pair pair;
    private final Model model;

    private ModelTest(int run, Due due) {
        this.run = run;
        this.random = new Random(run);
        this.pair = new Pair("run " + run, due);
        this.model = pair.model;
    }

    public static void main(String[] args) {
        Due due = new Due();
        int runs = args.length > 0 ? Integer.parseInt(args[0]) : 400;
        for (int run = 0; run < runs; run++) {
            new ModelTest(run, due).play();
        }
        due.end();
    }

    private void play() {
        if (run % 2 == 0) {
            settle();
            survey();
        }
        int calls = 0;
        while (calls < 250) {
            if (random.nextInt(12) == 0) {
                tell(random.nextInt(3) == 0 ? valleyText() : brokenText());
                call("read");
                calls += 60;
            } else {
                String name = CALLS[random.nextInt(CALLS.length)];
                // What is full or as much as may be undone is come to only by the same call again.
                int times = random.nextInt(10) == 0 ? 10 : 1;
                // A valley begun anew too often never grows old.
                if (name.equals("valley") && random.nextInt(8) > 0) times = 0;
                for (int i = 0; i < times; i++) call(name, arguments(name));
                calls++;
            }
        }
        if (run % 5 == 0) survey();
    }

    /** A valley in which most strokes come over, some hours on. */
    private void settle() {
        call("valley", 6 + random.nextInt(10));
        for (int h = 0; h < 6; h++) call("wind", h, random.nextInt(9) - 4);
        call("cock", random.nextInt(6), 1 + random.nextInt(4));
        int players = 1 + random.nextInt(7);
        for (int i = 0; i < players; i++) call("player", random.nextInt(6), random.nextInt(2), 1 + random.nextInt(9));
        call("hours", 1 + random.nextInt(24));
        if (run % 40 == 0) {
            for (int i = 0; i < 101; i++) call("hours", 99);
        }
        for (int i = 0; i < 8; i++) {
            call("hits", random.nextInt(players));
            if (random.nextInt(4) > 0) call("picks", random.nextInt(2));
        }
    }

    /** All questions, whomever they are about. */
    private void survey() {
        for (String name : new String[] {"may", "lasts", "is", "look"}) call(name);
        call("place", -1);
        int players = model.world.players.size();
        for (int p = 0; p < players; p++) {
            call("place", p);
            for (String name : new String[] {"tell", "kinds", "ask"}) call(name, p);
            for (int m = 0; m < 48; m += 1 + random.nextInt(8)) call("reach", p, m);
            for (int other = 0; other < players; other++) call("yours", p, other);
            call("gusts", p, random.nextInt(11));
        }
        for (int i = 0; i < 12; i++) {
            int told = random.nextInt(1 << players);
            long hours = model.call("rally", told, -2);
            for (int k = -2; k <= hours; k++) {
                if (k != -1) call("rally", told, k);
            }
        }
        for (int i = 0; i < 6; i++) call("centuries", random.nextInt(1000000), random.nextInt(61));
        for (int i = 0; i < 7; i++) call("now", i);
    }

    private void tell(String text) {
        call("clear");
        for (int i = 0; i < text.length(); i++) {
            call("type", text.charAt(i));
        }
    }

    private String valleyText() {
        StringBuilder s = new StringBuilder("valley " + (5 + random.nextInt(20)) + ";");
        int players = 0;
        while (s.length() < 100 + random.nextInt(60)) {
            switch (random.nextInt(9)) {
                case 0: s.append("wind");
                    for (int n = 1 + random.nextInt(6); n > 0; n--) s.append(" ").append(random.nextInt(9));
                    s.append(";");
                    break;
                case 1: s.append("cock " + random.nextInt(6) + " " + (1 + random.nextInt(9)) + "; "); break;
                case 2: case 3: case 4:
                    s.append("player " + random.nextInt(6) + " " + random.nextInt(2) + " " + (1 + random.nextInt(9)) + ";");
                    players++;
                    break;
                case 5: case 6:
                    if (players > 0) s.append("hit " + random.nextInt(players) + ";");
                    break;
                case 7: if (random.nextInt(3) == 0) s.append("pick " + random.nextInt(2) + ";"); break;
                default: s.append("hours " + (1 + random.nextInt(99)) + " ;");
            }
        }
        return s.toString();
    }

    private String brokenText() {
        StringBuilder s = new StringBuilder(valleyText());
        for (int n = random.nextInt(4); n > 0; n--) {
            int at = random.nextInt(s.length() + 1);
            if (random.nextBoolean() && at < s.length()) s.deleteCharAt(at);
            else s.insert(at, BITS[random.nextInt(BITS.length)]);
        }
        if (random.nextInt(3) == 0) s.setLength(random.nextInt(s.length() + 1));
        return s.toString();
    }

    /** Mostly as told, now and then just outside. */
    private int draw(int least, int most) {
        int off = random.nextInt(40);
        if (off == 0) return least - 1;
        if (off == 1) return most + 1;
        if (off == 2) return new int[] {Integer.MIN_VALUE, Integer.MAX_VALUE, random.nextInt(), -1}[random.nextInt(4)];
        return least + random.nextInt(most - least + 1);
    }

    private int somebody() {
        return draw(0, Math.max(0, model.world.players.size() - 1));
    }

    private int[] arguments(String name) {
        switch (name) {
            case "valley": return new int[] {draw(1, 40)};
            case "wind": return new int[] {draw(0, 5), draw(-4, 4)};
            case "player": return new int[] {draw(0, 5), draw(0, 1), draw(1, 9)};
            case "type": return new int[] {draw(0, 127)};
            case "hits": return new int[] {somebody()};
            case "picks": return new int[] {draw(0, 1)};
            case "cock": return new int[] {draw(0, 5), draw(1, 9)};
            case "hours": return new int[] {draw(1, 99)};
            case "now": return new int[] {draw(0, 6)};
            case "of": return new int[] {somebody(), draw(0, 3)};
            case "reach": return new int[] {somebody(), draw(0, 47)};
            case "rally": return new int[] {draw(0, (1 << model.world.players.size()) - 1), draw(-2, 21)};
            case "place": return new int[] {random.nextInt(3) == 0 ? -1 : somebody()};
            case "seen": return new int[] {somebody(), draw(0, 99), draw(0, 1)};
            case "heavy": case "forget": case "status": return new int[] {draw(0, 2)};
            case "note": return note();
            case "mark": return mark();
            case "tell": case "kinds": case "ask": return new int[] {somebody()};
            case "yours": return new int[] {somebody(), somebody()};
            case "gusts": return new int[] {somebody(), draw(0, 10)};
            case "centuries": return new int[] {draw(0, 999999), draw(0, 60)};
            case "part": case "image": case "from": return new int[] {draw(0, 1)};
            case "count": return new int[] {draw(0, 8)};
            default: return new int[0];
        }
    }

    private int[] note() {
        int g = draw(1, 9);
        int hit = draw(0, 30);
        int w = draw(-4, 4);
        int far = random.nextInt(4) == 0 ? draw(0, 99) : Model.COCKS[random.nextInt(6)].flies(g, hit, w);
        return new int[] {g, hit, w, far};
    }

    private int[] mark() {
        int b = draw(1, 9);
        int t = draw(0, 23);
        int hard = random.nextInt(4) == 0 ? draw(0, 30) : Model.ARMS[random.nextInt(6)].hits(b, t);
        return new int[] {somebody(), b, t, hard};
    }

    private void call(String name, int... a) {
        pair.call(name, a);
    }
}
