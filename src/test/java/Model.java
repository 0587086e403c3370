import java.math.BigInteger;
import java.util.ArrayDeque;
import java.util.ArrayList;
import java.util.Arrays;
import java.util.Deque;
import java.util.HashMap;
import java.util.List;
import java.util.Map;
import java.util.TreeMap;

/** The document told a second time, in another way and without care for speed, to compare with. */
final class Model {
    static final int BAD = -2, NO = -3, FULL = -4, LOW = -10;

    static class Feather {
        int flies(int g, int x, int w) { return Math.max(x + w - g, 0); }
    }
    static class Hen extends Feather {
        @Override int flies(int g, int x, int w) { return super.flies(g, x, w) + 2; }
    }
    static class Snow extends Feather {
        @Override int flies(int g, int x, int w) { return (int) Math.ceil(super.flies(g, x, w) / 2.0); }
    }
    static class Rumour extends Hen {
        @Override int flies(int g, int x, int w) {
            int hen = super.flies(g, x, w);
            return g > 2 ? hen : hen + 3;
        }
    }
    static class Oath extends Feather {
        @Override int flies(int g, int x, int w) {
            return Math.max((int) Math.floor(x / 2.0), super.flies(g, x, w));
        }
    }
    static class Cork extends Hen {
        @Override int flies(int g, int x, int w) { return Math.max(2 * super.flies(g, x, w) - g, 0); }
    }
    static final Feather[] COCKS = {new Feather(), new Hen(), new Snow(), new Rumour(), new Oath(), new Cork()};

    static class Plain {
        int hits(int b, int t) { return b + 6; }
    }
    static class Child extends Plain {
        @Override int hits(int b, int t) { return (int) Math.ceil(super.hits(b, t) / 2.0); }
    }
    static class Hard extends Plain {
        @Override int hits(int b, int t) { return super.hits(b, t) + 5; }
    }
    static class Old extends Child {
        @Override int hits(int b, int t) { return t >= 6 ? super.hits(b, t) : 0; }
    }
    static class Vicar extends Plain {
        @Override int hits(int b, int t) {
            return t == 0 || t == 7 || t == 14 || t == 21 ? 1 : super.hits(b, t);
        }
    }
    static class Girl extends Hard {
        @Override int hits(int b, int t) { return t < 18 ? super.hits(b, t) : super.hits(b, t) + 4; }
    }
    static final Plain[] ARMS = {new Plain(), new Child(), new Hard(), new Old(), new Vicar(), new Girl()};

    record Cock(int kind, int weight, int hill, boolean up, int kept, int drops, int hour) {
        Cock struck(boolean over) {
            return over ? new Cock(kind, weight, 1 - hill, true, kept + 1, drops, hour + 1)
                    : new Cock(kind, weight, hill, false, 0, drops + 1, hour + 1);
        }
        Cock picked(int h) { return new Cock(kind, weight, h, true, kept, drops, hour); }
        Cock feathered(int k, int g) { return new Cock(k, g, hill, up, kept, drops, hour); }
        Cock later(int n) { return new Cock(kind, weight, hill, up, kept, drops, Math.min(9999, hour + n)); }
    }
    record Player(int kind, int hill, int arm) {
        int force(int hour) { return ARMS[kind].hits(arm, hour % 24); }
    }

    static class World {
        int wide = 10;
        int[] wind = new int[6];
        Cock cock = new Cock(0, 1, 0, true, 0, 0, 0);
        List<Player> players = new ArrayList<>();
        List<int[]> seen = new ArrayList<>();
        List<int[]> notes = new ArrayList<>();
        List<int[]> marks = new ArrayList<>();
        Deque<Cock> past = new ArrayDeque<>();

        World copy() {
            World c = new World();
            c.wide = wide;
            c.wind = wind.clone();
            c.cock = cock;
            c.players.addAll(players);
            c.seen.addAll(seen);
            c.notes.addAll(notes);
            c.marks.addAll(marks);
            c.past.addAll(past);
            return c;
        }
        int helps(int hill, int hour) { return hill == 0 ? wind[hour % 6] : -wind[hour % 6]; }
        int far(Player p, int hour, int weight) {
            return COCKS[cock.kind].flies(weight, p.force(hour), helps(p.hill, hour));
        }
        boolean over(Player p, int hour) { return far(p, hour, cock.weight) >= wide; }
        boolean there(int p) { return p >= 0 && p < players.size(); }
        void keep() {
            past.addLast(cock);
            if (past.size() > 8) {
                past.removeFirst();
            }
        }
    }

    World world = new World();
    final World[] images = new World[2];
    String text = "";
    BigInteger above = BigInteger.ZERO, below = BigInteger.ONE;
    final int[] refused = new int[3];

    private int bad(int answer) { refused[0]++; return answer; }
    private int no() { refused[1]++; return NO; }
    private int full() { refused[2]++; return FULL; }
    private static boolean in(int n, int a, int b) { return a <= n && n <= b; }

    /** Answers a call by its name. */
    long call(String name, int... a) {
        switch (name) {
            case "valley": case "wind": case "player": case "type": case "clear": case "read":
                return tellValley(name, a);
            case "hits": case "picks": case "cock": case "hours": case "undo": case "now": case "of":
                return strokes(name, a);
            case "reach": case "may": case "rally": case "lasts": case "place":
                return howFar(name, a);
            case "part": case "image": case "from": case "status": case "count": case "digest":
                return whatThereIs(name, a);
            default:
                return howHeavy(name, a);
        }
    }

    private long tellValley(String name, int[] a) {
        switch (name) {
            case "valley": {
                if (!in(a[0], 1, 40)) return bad(BAD);
                int n = world.players.size();
                world = new World();
                world.wide = a[0];
                return n;
            }
            case "wind": {
                if (!in(a[0], 0, 5) || !in(a[1], -4, 4)) return bad(LOW);
                int was = world.wind[a[0]];
                world.wind[a[0]] = a[1];
                world.past.clear();
                return was;
            }
            case "player":
                if (!in(a[0], 0, 5) || !in(a[1], 0, 1) || !in(a[2], 1, 9)) return bad(BAD);
                if (world.players.size() == 7) return full();
                world.players.add(new Player(a[0], a[1], a[2]));
                world.past.clear();
                return world.players.size() - 1;
            case "type":
                if (!in(a[0], 0, 127)) return bad(BAD);
                if (text.length() == 150) return full();
                text += (char) a[0];
                return text.length();
            case "clear": {
                int n = text.length();
                text = "";
                return n;
            }
            default:
                return read();
        }
    }

    private record Token(int at, String what) {
        boolean isNumber() { return what.matches("[0-9]{1,2}"); }
        int number() { return Integer.parseInt(what); }
    }

    private List<Token> tokens() {
        List<Token> all = new ArrayList<>();
        java.util.regex.Matcher m = java.util.regex.Pattern
                .compile("[a-z]+|[0-9]+|[^ ]", java.util.regex.Pattern.DOTALL).matcher(text);
        while (m.find()) {
            all.add(new Token(m.start(), m.group()));
        }
        all.add(new Token(text.length(), ""));
        return all;
    }

    /** Every token is tried as the last of what stands ahead of it; the first that can't be is the fault. */
    private int read() {
        World draft = null;
        int items = 0;
        List<Integer> numbers = new ArrayList<>();
        String word = null;
        for (Token t : tokens()) {
            int fault = -10 - t.at;
            if (word == null) {
                if (t.what.isEmpty()) return items > 0 ? take(draft, items) : fault;
                if (!List.of("valley", "wind", "cock", "player", "hit", "pick", "hours").contains(t.what)) return fault;
                if (t.what.equals("valley") != (draft == null)) return fault;
                if (t.what.equals("player") && draft.players.size() == 7) return fault;
                if (t.what.equals("pick") && draft.cock.up) return fault;
                word = t.what;
                numbers.clear();
            } else if (t.isNumber()) {
                if (!numberStands(draft, word, numbers.size(), t.number())) return fault;
                numbers.add(t.number());
            } else {
                boolean enough = word.equals("wind") ? !numbers.isEmpty() : numbers.size() == wants(word);
                if (!t.what.equals(";") || !enough) return fault;
                draft = apply(draft, word, numbers);
                items++;
                word = null;
            }
        }
        throw new IllegalStateException("the last token is the end");
    }

    private int take(World draft, int items) {
        world = draft;
        return items;
    }

    private static int wants(String word) {
        return word.equals("wind") ? 6 : word.equals("cock") ? 2 : word.equals("player") ? 3 : 1;
    }

    private static boolean numberStands(World d, String word, int place, int n) {
        if (place >= wants(word)) return false;
        switch (word) {
            case "valley": return in(n, 1, 40);
            case "wind": return in(n, 0, 8);
            case "cock": return place == 0 ? in(n, 0, 5) : in(n, 1, 9);
            case "player": return place == 0 ? in(n, 0, 5) : place == 1 ? in(n, 0, 1) : in(n, 1, 9);
            case "hit": return d.there(n) && d.cock.up && d.players.get(n).hill == d.cock.hill && d.cock.hour < 9999;
            case "pick": return in(n, 0, 1);
            default: return in(n, 1, 99);
        }
    }

    private static World apply(World d, String word, List<Integer> n) {
        switch (word) {
            case "valley":
                d = new World();
                d.wide = n.get(0);
                break;
            case "wind":
                for (int i = 0; i < n.size(); i++) d.wind[i] = n.get(i) - 4;
                break;
            case "cock": d.cock = d.cock.feathered(n.get(0), n.get(1)); break;
            case "player": d.players.add(new Player(n.get(0), n.get(1), n.get(2))); break;
            case "hit": d.cock = d.cock.struck(d.over(d.players.get(n.get(0)), d.cock.hour)); break;
            case "pick": d.cock = d.cock.picked(n.get(0)); break;
            default: d.cock = d.cock.later(n.get(0));
        }
        return d;
    }

    private long strokes(String name, int[] a) {
        World w = world;
        Cock c = w.cock;
        switch (name) {
            case "hits": {
                if (!w.there(a[0])) return bad(BAD);
                Player p = w.players.get(a[0]);
                if (!c.up || p.hill != c.hill || c.hour == 9999) return no();
                w.keep();
                boolean over = w.over(p, c.hour);
                w.cock = c.struck(over);
                return over ? 1 : 0;
            }
            case "picks":
                if (!in(a[0], 0, 1)) return bad(BAD);
                if (c.up) return no();
                w.keep();
                w.cock = c.picked(a[0]);
                return c.drops;
            case "cock":
                if (!in(a[0], 0, 5) || !in(a[1], 1, 9)) return bad(BAD);
                w.keep();
                w.cock = c.feathered(a[0], a[1]);
                return c.weight;
            case "hours":
                if (!in(a[0], 1, 99)) return bad(BAD);
                w.keep();
                w.cock = c.later(a[0]);
                return w.cock.hour;
            case "undo":
                if (w.past.isEmpty()) return no();
                w.cock = w.past.removeLast();
                return w.cock.hour;
            case "now":
                if (!in(a[0], 0, 6)) return bad(LOW);
                return new int[] {c.kind, c.weight, c.hill, c.up ? 1 : 0, c.kept, c.drops, w.helps(c.hill, c.hour)}[a[0]];
            default: {
                if (!w.there(a[0]) || !in(a[1], 0, 3)) return bad(BAD);
                Player p = w.players.get(a[0]);
                return new int[] {p.kind, p.hill, p.arm, p.force(c.hour)}[a[1]];
            }
        }
    }

    private long howFar(String name, int[] a) {
        World w = world;
        switch (name) {
            case "reach":
                if (!w.there(a[0]) || !in(a[1], 0, 47)) return bad(BAD);
                return w.far(w.players.get(a[0]), w.cock.hour + a[1], w.cock.weight);
            case "may": {
                int bits = 0;
                for (int p : able(w, w.cock.hill, w.cock.hour)) bits += 1 << p;
                return w.cock.up ? bits : 0;
            }
            case "rally": return rally(a[0], a[1]);
            case "lasts": return lasts(w);
            default: return place(a[0]);
        }
    }

    private static List<Integer> able(World w, int hill, int hour) {
        List<Integer> all = new ArrayList<>();
        for (int p = 0; p < w.players.size(); p++) {
            if (w.players.get(p).hill == hill && w.over(w.players.get(p), hour)) all.add(p);
        }
        return all;
    }

    /** Forward, hour by hour: of every way to be on a hill with these struck, only the first row is kept. */
    private long rally(int told, int k) {
        World w = world;
        if (told < 0 || told >= 1 << w.players.size() || k < -2 || k == -1) return bad(LOW);
        List<Integer> row = firstRow(w, told);
        if (row == null) return -6;
        return k == -2 ? row.size() : k < row.size() ? row.get(k) : -5;
    }

    private static List<Integer> firstRow(World w, int told) {
        if (told == 0) return List.of();
        if (!w.cock.up) return null;
        Map<String, List<Integer>> level = new HashMap<>();
        level.put(w.cock.hill + " " + 0, List.of());
        for (int t = 0; t < 20; t++) {
            Map<String, List<Integer>> next = new HashMap<>();
            for (Map.Entry<String, List<Integer>> e : level.entrySet()) {
                int hill = Integer.parseInt(e.getKey().split(" ")[0]);
                int struck = Integer.parseInt(e.getKey().split(" ")[1]);
                offer(next, e.getKey(), e.getValue(), -1);
                for (int p : able(w, hill, w.cock.hour + t)) {
                    offer(next, (1 - hill) + " " + (struck | told & (1 << p)), e.getValue(), p);
                }
            }
            level = next;
            List<Integer> best = null;
            for (int hill = 0; hill < 2; hill++) {
                List<Integer> row = level.get(hill + " " + told);
                if (row != null && (best == null || isAhead(row, best))) best = row;
            }
            if (best != null) return best;
        }
        return null;
    }

    private static void offer(Map<String, List<Integer>> next, String key, List<Integer> row, int p) {
        List<Integer> longer = new ArrayList<>(row);
        longer.add(p);
        List<Integer> old = next.get(key);
        if (old == null || isAhead(longer, old)) next.put(key, longer);
    }

    private static boolean isAhead(List<Integer> a, List<Integer> b) {
        for (int i = 0; i < a.size(); i++) {
            if (!a.get(i).equals(b.get(i))) return a.get(i) < b.get(i);
        }
        return false;
    }

    private static int lasts(World w) {
        if (!w.cock.up) return 0;
        int n = 0;
        for (int hill = w.cock.hill; n < 60 && !able(w, hill, w.cock.hour + n).isEmpty(); hill = 1 - hill) n++;
        return n;
    }

    private long place(int p) {
        if (p != -1 && !world.there(p)) return bad(LOW);
        List<Player> best = new ArrayList<>();
        int longest = tryHills(world.copy(), 0, -1, best);
        return p == -1 ? longest : best.get(p).hill;
    }

    private static int tryHills(World w, int p, int longest, List<Player> best) {
        if (p == w.players.size()) {
            int n = lasts(w);
            if (n > longest) {
                best.clear();
                best.addAll(w.players);
            }
            return Math.max(n, longest);
        }
        Player old = w.players.get(p);
        for (int hill = 0; hill < 2; hill++) {
            w.players.set(p, new Player(old.kind, hill, old.arm));
            longest = tryHills(w, p + 1, longest, best);
        }
        return longest;
    }

    private long howHeavy(String name, int[] a) {
        World w = world;
        switch (name) {
            case "seen":
                if (!w.there(a[0]) || !in(a[1], 0, 99) || !in(a[2], 0, 1)) return bad(BAD);
                return keep(w.seen, a, 5);
            case "heavy": {
                if (!in(a[0], 0, 2)) return bad(BAD);
                List<Integer> all = weights();
                if (a[0] == 0) return all.size();
                return all.isEmpty() ? -1 : all.get(a[0] == 1 ? 0 : all.size() - 1);
            }
            case "tell": return w.there(a[0]) ? tell(w.players.get(a[0])) : bad(BAD);
            case "note":
                if (!in(a[0], 1, 9) || !in(a[1], 0, 30) || !in(a[2], -4, 4) || !in(a[3], 0, 99)) return bad(BAD);
                return keep(w.notes, a, 6);
            case "mark":
                if (!w.there(a[0]) || !in(a[1], 1, 9) || !in(a[2], 0, 23) || !in(a[3], 0, 30)) return bad(BAD);
                return keep(w.marks, a, 6);
            case "forget": {
                if (!in(a[0], 0, 2)) return bad(BAD);
                List<int[]> rows = a[0] == 0 ? w.seen : a[0] == 1 ? w.notes : w.marks;
                int n = rows.size();
                rows.clear();
                return n;
            }
            case "is": return bits(cockKinds());
            case "look": return look();
            case "kinds": return w.there(a[0]) ? bits(playerKinds(a[0])) : bad(BAD);
            case "ask": return w.there(a[0]) ? ask(a[0]) : bad(BAD);
            case "yours": return yours(a[0], a[1]);
            case "gusts": return gusts(a[0], a[1]);
            case "centuries": return centuries(a[0], a[1]);
            default: throw new IllegalArgumentException(name);
        }
    }

    private int keep(List<int[]> rows, int[] row, int most) {
        if (rows.size() == most) return full();
        rows.add(row.clone());
        return rows.size();
    }

    private List<Integer> weights() {
        List<Integer> all = new ArrayList<>();
        for (int g = 1; g <= 9; g++) {
            boolean fits = true;
            for (int[] s : world.seen) {
                int over = world.far(world.players.get(s[0]), s[1], g) >= world.wide ? 1 : 0;
                fits &= over == s[2];
            }
            if (fits) all.add(g);
        }
        return all;
    }

    private int tell(Player p) {
        List<Integer> all = weights();
        TreeMap<Integer, Integer> firstBySize = new TreeMap<>();
        for (int h = 0; h < 24 && !all.isEmpty(); h++) {
            int hour = h;
            int over = (int) all.stream().filter(g -> world.far(p, hour, g) >= world.wide).count();
            firstBySize.putIfAbsent(Math.max(over, all.size() - over), h);
        }
        return firstBySize.isEmpty() ? -1 : firstBySize.firstEntry().getValue();
    }

    private List<Integer> cockKinds() {
        List<Integer> all = new ArrayList<>();
        for (int k = 0; k < 6; k++) {
            Feather kind = COCKS[k];
            if (world.notes.stream().allMatch(n -> kind.flies(n[0], n[1], n[2]) == n[3])) all.add(k);
        }
        return all;
    }

    private List<Integer> playerKinds(int p) {
        List<Integer> all = new ArrayList<>();
        for (int k = 0; k < 6; k++) {
            Plain kind = ARMS[k];
            if (world.marks.stream().allMatch(m -> m[0] != p || kind.hits(m[1], m[2]) == m[3])) all.add(k);
        }
        return all;
    }

    private static long bits(List<Integer> all) {
        long bits = 0;
        for (int k : all) bits += 1L << k;
        return bits;
    }

    private static int mostAlike(List<Integer> measures) {
        Map<Integer, Integer> many = new HashMap<>();
        for (int m : measures) many.merge(m, 1, Integer::sum);
        return many.values().stream().max(Integer::compare).orElse(0);
    }

    private int look() {
        TreeMap<Integer, Integer> firstBySize = new TreeMap<>();
        for (int code = 0; code <= 308; code++) {
            int x = code / 10;
            int w = code % 10 - 4;
            if (w > 4) continue;
            List<Integer> far = new ArrayList<>();
            for (int k : cockKinds()) far.add(COCKS[k].flies(world.cock.weight, x, w));
            if (!far.isEmpty()) firstBySize.putIfAbsent(mostAlike(far), code);
        }
        return firstBySize.isEmpty() ? -1 : firstBySize.firstEntry().getValue();
    }

    private int ask(int p) {
        TreeMap<Integer, Integer> firstBySize = new TreeMap<>();
        for (int t = 0; t < 24; t++) {
            List<Integer> hard = new ArrayList<>();
            for (int k : playerKinds(p)) hard.add(ARMS[k].hits(world.players.get(p).arm, t));
            if (!hard.isEmpty()) firstBySize.putIfAbsent(mostAlike(hard), t);
        }
        return firstBySize.isEmpty() ? -1 : firstBySize.firstEntry().getValue();
    }

    private int yours(int a, int b) {
        World w = world;
        if (!w.there(a) || !w.there(b) || a == b) return bad(BAD);
        Player pa = w.players.get(a);
        Player pb = w.players.get(b);
        if (!w.cock.up || pa.hill != w.cock.hill || pb.hill != w.cock.hill) return no();
        int[][] gains = new int[4][];
        for (int pair = 0; pair < 4; pair++) {
            int toA = -1;
            int toB = -1;
            if (pair == 1) {
                boolean over = w.over(pa, w.cock.hour);
                toA = over ? 2 : -2;
                toB = over ? 3 : -2;
            } else if (pair == 2) {
                boolean over = w.over(pb, w.cock.hour);
                toA = over ? 3 : -2;
                toB = over ? 2 : -2;
            }
            if ((pair & 1) != 0) toA--;
            if ((pair & 2) != 0) toB--;
            gains[pair] = new int[] {toA, toB};
        }
        int bits = 0;
        for (int pair = 0; pair < 4; pair++) {
            boolean rests = gains[pair ^ 1][0] <= gains[pair][0] && gains[pair ^ 2][1] <= gains[pair][1];
            if (rests) bits += 1 << pair;
        }
        return bits;
    }

    private int gusts(int p, int c) {
        World w = world;
        if (!w.there(p) || !in(c, 0, 10)) return bad(BAD);
        int hour = w.cock.hour;
        int tenths = 0;
        for (int i = 0; i < 10; i++) {
            World windy = w.copy();
            if (i < c) windy.wind[hour % 6] = Math.max(-4, windy.wind[hour % 6] - 4);
            if (windy.over(windy.players.get(p), hour)) tenths++;
        }
        BigInteger gcd = BigInteger.valueOf(tenths).gcd(BigInteger.TEN);
        above = BigInteger.valueOf(tenths).divide(gcd);
        below = BigInteger.TEN.divide(gcd);
        return 1;
    }

    private int centuries(int seed, int n) {
        if (!in(seed, 0, 999999) || !in(n, 0, 60)) return bad(BAD);
        World w = world;
        BigInteger x = BigInteger.valueOf(seed);
        Cock c = w.cock;
        int over = 0;
        for (int i = 0; i < n; i++) {
            x = x.multiply(BigInteger.valueOf(1103515245)).add(BigInteger.valueOf(12345)).mod(BigInteger.TWO.pow(31));
            if (!c.up) c = c.picked(x.divide(BigInteger.TWO.pow(20)).mod(BigInteger.TWO).intValue());
            int p = x.divide(BigInteger.TWO.pow(16)).mod(BigInteger.valueOf(7)).intValue();
            if (w.there(p) && w.players.get(p).hill == c.hill) {
                boolean carried = w.over(w.players.get(p), w.cock.hour + i);
                over += carried ? 1 : 0;
                c = c.struck(carried);
            }
        }
        return over;
    }

    private long whatThereIs(String name, int[] a) {
        switch (name) {
            case "part": return a[0] == 0 ? above.longValue() : a[0] == 1 ? below.longValue() : bad(BAD);
            case "image":
                if (!in(a[0], 0, 1)) return bad(BAD);
                images[a[0]] = world.copy();
                return 1;
            case "from":
                if (!in(a[0], 0, 1)) return bad(BAD);
                if (images[a[0]] == null) return no();
                world = images[a[0]].copy();
                return 1;
            case "status": return in(a[0], 0, 2) ? refused[a[0]] : bad(-1);
            case "count": return in(a[0], 0, 8) ? counts()[a[0]] : bad(BAD);
            default: return digest();
        }
    }

    private int[] counts() {
        World w = world;
        int there = (int) w.players.stream().filter(p -> p.hill == 1).count();
        return new int[] {w.players.size(), there, w.cock.hour, w.wide, w.seen.size(), w.notes.size(),
            w.marks.size(), w.past.size(), text.length()};
    }

    private long digest() {
        World w = world;
        Cock c = w.cock;
        List<Long> all = new ArrayList<>();
        for (int n : counts()) all.add((long) n);
        for (int n : new int[] {c.kind, c.weight, c.hill, c.up ? 1 : 0, c.kept, c.drops}) all.add((long) n);
        for (int n : w.wind) all.add((long) n);
        for (Player p : w.players) all.addAll(Arrays.asList((long) p.kind, (long) p.hill, (long) p.arm));
        for (List<int[]> rows : Arrays.asList(w.seen, w.notes, w.marks)) {
            for (int[] row : rows) {
                for (int n : row) all.add((long) n);
            }
        }
        all.add(above.longValue());
        all.add(below.longValue());
        BigInteger h = BigInteger.valueOf(1663);
        for (long v : all) h = h.multiply(BigInteger.valueOf(31)).add(BigInteger.valueOf(v));
        return h.longValue();
    }
}
