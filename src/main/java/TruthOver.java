import java.util.Arrays;

/** Two hills, a valley between them, and a thing said once that is kept up over it with bats. */
public final class TruthOver {
    public static final int NONE = -1, BAD = -2, NO = -3, FULL = -4;

    // What stands for BAD where -2 might be an answer.
    private static final int LOW_BAD = -10;
    private static final int HOW_MANY = -2;
    private static final int NOT_SO_MANY = -5;
    private static final int NO_RALLY = -6;
    private static final int LAST_HOUR = 9999;

    private final Valley live = new Valley();
    private final Valley firstImage = new Valley();
    private final Valley secondImage = new Valley();
    private boolean firstKept = false;
    private boolean secondKept = false;
    private final Reader reader = new Reader();
    private final Standing standing = new Standing();
    private final Rally rallies = new Rally();
    private final Guess guess = new Guess();
    private int above = 0;
    private int below = 1;
    private int bads = 0;
    private int noes = 0;
    private int fulls = 0;

    public TruthOver() {
    }

    // ---- a valley

    public int valley(int wide) {
        if (!isWithin(wide, 1, Valley.WIDEST)) {
            return refuseBad(BAD);
        }
        int before = live.players.size();
        live.start(wide);
        return before;
    }

    public int wind(int h, int w) {
        if (!isWithin(h, 0, Valley.WINDS - 1) || !isWithin(w, -4, 4)) {
            return refuseBad(LOW_BAD);
        }
        int before = live.winds[h];
        live.winds[h] = w;
        live.past.forgetAll();
        return before;
    }

    public int player(int kind, int hill, int arm) {
        if (!isKind(kind) || !isHill(hill) || !isWithin(arm, 1, 9)) {
            return refuseBad(BAD);
        }
        if (live.players.isFull()) {
            return refuseFull();
        }
        live.past.forgetAll();
        return live.players.add(kind, hill, arm, 0) - 1;
    }

    public int type(int c) {
        if (!isWithin(c, 0, 127)) {
            return refuseBad(BAD);
        }
        if (reader.text.isFull()) {
            return refuseFull();
        }
        return reader.text.append(c);
    }

    public int clear() {
        return reader.text.empty();
    }

    public int read() {
        reader.text.rewind();
        if (!reader.readValley()) {
            return fault();
        }
        int items = 1;
        while (reader.text.token() != Text.END && items <= Text.MOST) {
            if (!reader.readItem()) {
                return fault();
            }
            items++;
        }
        live.copyFrom(reader.draft);
        return items;
    }

    // ---- strokes

    public int hits(int p) {
        if (!live.players.has(p)) {
            return refuseBad(BAD);
        }
        if (!live.canStrike(p)) {
            return refuseNo();
        }
        live.remember();
        return live.strike(p);
    }

    public int picks(int hill) {
        if (!isHill(hill)) {
            return refuseBad(BAD);
        }
        if (live.isUp()) {
            return refuseNo();
        }
        live.remember();
        live.pickUp(hill);
        return live.cock[Valley.DROPS];
    }

    public int cock(int kind, int weight) {
        if (!isKind(kind) || !isWithin(weight, 1, Valley.HEAVIEST)) {
            return refuseBad(BAD);
        }
        int before = live.cock[Valley.WEIGHT];
        live.remember();
        live.feather(kind, weight);
        return before;
    }

    public int hours(int n) {
        if (!isWithin(n, 1, 99)) {
            return refuseBad(BAD);
        }
        live.remember();
        live.letPass(n);
        return live.hour();
    }

    public int undo() {
        if (live.past.size() == 0) {
            return refuseNo();
        }
        live.past.pop(live.cock);
        return live.hour();
    }

    public int now(int what) {
        if (what == 6) {
            return live.helpFrom(live.hill(), live.hour());
        }
        if (!isWithin(what, 0, Valley.DROPS)) {
            return refuseBad(LOW_BAD);
        }
        return live.cock[what];
    }

    public int of(int p, int what) {
        if (!live.players.has(p) || !isWithin(what, 0, 3)) {
            return refuseBad(BAD);
        }
        return what == 3 ? live.force(p, live.hour()) : live.players.cell(p, what);
    }

    // ---- how far

    public int reach(int p, int m) {
        if (!live.players.has(p) || !isWithin(m, 0, 47)) {
            return refuseBad(BAD);
        }
        return live.reachOf(p, live.hour() + m);
    }

    public int may() {
        return live.isUp() ? live.carriersOn(live.hill(), live.hour()) : 0;
    }

    public int rally(int players, int k) {
        if (!isWithin(players, 0, live.everybody()) || k == -1 || k < HOW_MANY) {
            return refuseBad(LOW_BAD);
        }
        int fewest = rallies.fewestHours(live, players);
        if (fewest < 0) {
            return NO_RALLY;
        }
        if (k == HOW_MANY) {
            return fewest;
        }
        return k < fewest ? rallies.strikerIn(k, fewest) : NOT_SO_MANY;
    }

    public int lasts() {
        if (!live.isUp()) {
            return 0;
        }
        standing.watch(live);
        return standing.strokes(live.playersOn(1));
    }

    public int place(int p) {
        if (p != NONE && !live.players.has(p)) {
            return refuseBad(LOW_BAD);
        }
        // One that is down lasts 0 whoever stands where, so the first way has all on hill 0.
        if (!live.isUp()) {
            return 0;
        }
        standing.watch(live);
        int way = standing.firstBestWay(live.players.size());
        return p == NONE ? standing.strokes(way) : way >> p & 1;
    }

    // ---- how heavy it is

    public int seen(int p, int h, int over) {
        if (!live.players.has(p) || !isWithin(h, 0, 99) || !isWithin(over, 0, 1)) {
            return refuseBad(BAD);
        }
        return live.seen.isFull() ? refuseFull() : live.seen.add(p, h, over, 0);
    }

    public int heavy(int what) {
        if (!isWithin(what, 0, 2)) {
            return refuseBad(BAD);
        }
        int weights = guess.weights(live);
        if (what == 0) {
            return Integer.bitCount(weights);
        }
        return what == 1 ? lowestBit(weights) : highestBit(weights);
    }

    public int tell(int p) {
        if (!live.players.has(p)) {
            return refuseBad(BAD);
        }
        return guess.tellingHour(live, p, guess.weights(live));
    }

    public int note(int g, int x, int w, int y) {
        if (!isWithin(g, 1, Valley.HEAVIEST) || !isWithin(x, 0, Guess.HARDEST)
                || !isWithin(w, -4, 4) || !isWithin(y, 0, 99)) {
            return refuseBad(BAD);
        }
        return live.notes.isFull() ? refuseFull() : live.notes.add(g, x, w, y);
    }

    public int mark(int p, int b, int t, int x) {
        if (!live.players.has(p) || !isWithin(b, 1, 9)
                || !isWithin(t, 0, 23) || !isWithin(x, 0, Guess.HARDEST)) {
            return refuseBad(BAD);
        }
        return live.marks.isFull() ? refuseFull() : live.marks.add(p, b, t, x);
    }

    public int forget(int what) {
        switch (what) {
            case 0:
                return live.seen.empty();
            case 1:
                return live.notes.empty();
            case 2:
                return live.marks.empty();
            default:
                return refuseBad(BAD);
        }
    }

    public int is() {
        return guess.cockKinds(live);
    }

    public int look() {
        return guess.nextLook(live);
    }

    public int kinds(int p) {
        if (!live.players.has(p)) {
            return refuseBad(BAD);
        }
        return guess.playerKinds(live, p);
    }

    public int ask(int p) {
        if (!live.players.has(p)) {
            return refuseBad(BAD);
        }
        return guess.askingHour(live, p);
    }

    public int yours(int a, int b) {
        if (!live.players.has(a) || !live.players.has(b) || a == b) {
            return refuseBad(BAD);
        }
        if (!live.isUp() || !live.isOn(a, live.hill()) || !live.isOn(b, live.hill())) {
            return refuseNo();
        }
        boolean overByA = live.carries(a, live.hour());
        boolean overByB = live.carries(b, live.hour());
        int resting = 0;
        for (int pair = 0; pair < 4; pair++) {
            if (Calls.rests(pair & 1, pair >> 1, overByA, overByB)) {
                resting |= 1 << pair;
            }
        }
        return resting;
    }

    public int gusts(int p, int c) {
        if (!live.players.has(p) || !isWithin(c, 0, 10)) {
            return refuseBad(BAD);
        }
        int windNow = live.windIn(live.hour());
        int calm = live.carriesInWind(p, windNow) ? 10 - c : 0;
        int gusty = live.carriesInWind(p, Math.max(-4, windNow - 4)) ? c : 0;
        keepTenths(calm + gusty);
        return 1;
    }

    public int centuries(int seed, int n) {
        if (!isWithin(seed, 0, 999999) || !isWithin(n, 0, 60)) {
            return refuseBad(BAD);
        }
        return strokesOver(seed, n);
    }

    // ---- what there is

    public long part(int what) {
        if (!isWithin(what, 0, 1)) {
            return refuseBad(BAD);
        }
        return what == 0 ? above : below;
    }

    public int image(int i) {
        if (!isWithin(i, 0, 1)) {
            return refuseBad(BAD);
        }
        if (i == 0) {
            firstImage.copyFrom(live);
            firstKept = true;
        } else {
            secondImage.copyFrom(live);
            secondKept = true;
        }
        return 1;
    }

    public int from(int i) {
        if (!isWithin(i, 0, 1)) {
            return refuseBad(BAD);
        }
        if (!(i == 0 ? firstKept : secondKept)) {
            return refuseNo();
        }
        live.copyFrom(i == 0 ? firstImage : secondImage);
        return 1;
    }

    public int status(int what) {
        switch (what) {
            case 0:
                return bads;
            case 1:
                return noes;
            case 2:
                return fulls;
            default:
                return refuseBad(-1);
        }
    }

    public int count(int what) {
        return isWithin(what, 0, 8) ? howMany(what) : refuseBad(BAD);
    }

    public long digest() {
        long h = 1663;
        for (int what = 0; what <= 8; what++) {
            h = 31 * h + howMany(what);
        }
        h = live.foldInto(h);
        h = 31 * h + above;
        return 31 * h + below;
    }

    // ---- what the calls above share

    private int refuseBad(int answer) {
        bads++;
        return answer;
    }

    private int refuseNo() {
        noes++;
        return NO;
    }

    private int refuseFull() {
        fulls++;
        return FULL;
    }

    // The token before which the reader stays is the one that can not stand there.
    private int fault() {
        return -10 - reader.text.tokenStart();
    }

    private int howMany(int what) {
        switch (what) {
            case 0:
                return live.players.size();
            case 1:
                return Integer.bitCount(live.playersOn(1));
            case 2:
                return live.hour();
            case 3:
                return live.wide;
            case 4:
                return live.seen.size();
            case 5:
                return live.notes.size();
            case 6:
                return live.marks.size();
            case 7:
                return live.past.size();
            default:
                return reader.text.size();
        }
    }

    private void keepTenths(int tenths) {
        above = tenths;
        below = 10;
        for (int divisor = 10; divisor > 1; divisor--) {
            if (above % divisor == 0 && below % divisor == 0) {
                above /= divisor;
                below /= divisor;
            }
        }
    }

    private int strokesOver(int seed, int n) {
        long x = seed;
        int hill = live.hill();
        boolean up = live.isUp();
        int over = 0;
        for (int i = 0; i < n; i++) {
            x = (x * 1103515245L + 12345L) % 2147483648L;
            if (!up) {
                hill = (int) (x / 1048576L % 2L);
                up = true;
            }
            int p = (int) (x / 65536L % 7L);
            if (live.isOn(p, hill)) {
                up = live.carries(p, live.hour() + i);
                if (up) {
                    hill = 1 - hill;
                    over++;
                }
            }
        }
        return over;
    }

    private static boolean isWithin(int n, int least, int most) {
        return n >= least && n <= most;
    }

    private static boolean isKind(int kind) {
        return isWithin(kind, 0, Kinds.MANY - 1);
    }

    private static boolean isHill(int hill) {
        return isWithin(hill, 0, 1);
    }

    private static int lowestBit(int bits) {
        for (int i = 0; i < 32; i++) {
            if ((bits >> i & 1) != 0) {
                return i;
            }
        }
        return NONE;
    }

    private static int highestBit(int bits) {
        for (int i = 31; i >= 0; i--) {
            if ((bits >> i & 1) != 0) {
                return i;
            }
        }
        return NONE;
    }

    /** How far the kinds of cocks fly and how hard the kinds of players hit. */
    private static final class Kinds {
        static final int MANY = 6;

        static int flight(int kind, int g, int x, int w) {
            int feather = Math.max(0, x + w - g);
            int hen = feather + 2;
            switch (kind) {
                case 1:
                    return hen;
                case 2:
                    return (feather + 1) / 2;
                case 3:
                    return g <= 2 ? hen + 3 : hen;
                case 4:
                    return Math.max(feather, x / 2);
                case 5:
                    return Math.max(0, 2 * hen - g);
                default:
                    return feather;
            }
        }

        static int blow(int kind, int b, int t) {
            int plain = b + 6;
            int child = (plain + 1) / 2;
            int hard = plain + 5;
            switch (kind) {
                case 1:
                    return child;
                case 2:
                    return hard;
                case 3:
                    return t < 6 ? 0 : child;
                case 4:
                    return t % 7 == 0 ? 1 : plain;
                case 5:
                    return t >= 18 ? hard + 4 : hard;
                default:
                    return plain;
            }
        }
    }

    /** Rows of numbers, as they come, so many at most. */
    private static final class Rows {
        private final int most;
        private final int width;
        private final int[] cells;
        private int size = 0;

        Rows(int most, int width) {
            this.most = Math.max(0, most);
            this.width = Math.max(0, width);
            this.cells = new int[this.most * this.width];
        }

        int size() {
            return size;
        }

        boolean isFull() {
            return size >= most;
        }

        boolean has(int row) {
            return row >= 0 && row < size;
        }

        int cell(int row, int column) {
            if (row < 0 || row >= size || column < 0 || column >= width) {
                return 0;
            }
            return cells[row * width + column];
        }

        /** The first of these, as many as a row has, behind all others: how many rows there are. */
        int add(int a, int b, int c, int d) {
            if (!isFull()) {
                size++;
                put(0, a);
                put(1, b);
                put(2, c);
                put(3, d);
            }
            return size;
        }

        int empty() {
            int before = size;
            size = 0;
            return before;
        }

        void copyFrom(Rows other) {
            size = Math.min(other.size, most);
            int many = Math.min(size * width, other.cells.length);
            System.arraycopy(other.cells, 0, cells, 0, many);
        }

        long foldInto(long start) {
            long h = start;
            for (int i = 0; i < size * width; i++) {
                h = 31 * h + cells[i];
            }
            return h;
        }

        private void put(int column, int value) {
            if (size > 0 && column < width) {
                cells[(size - 1) * width + column] = value;
            }
        }
    }

    /** What the cock was ahead of the last steps, the oldest first. */
    private static final class Past {
        private static final int MOST = 8;
        private static final int WIDTH = Valley.COCK_CELLS;
        private final int[] cells = new int[MOST * WIDTH];
        private int size = 0;

        int size() {
            return size;
        }

        void forgetAll() {
            size = 0;
        }

        void push(int[] cock) {
            if (size >= MOST) {
                System.arraycopy(cells, WIDTH, cells, 0, (MOST - 1) * WIDTH);
                size = MOST - 1;
            }
            System.arraycopy(cock, 0, cells, size * WIDTH, WIDTH);
            size++;
        }

        void pop(int[] cock) {
            if (size > 0) {
                size--;
                System.arraycopy(cells, size * WIDTH, cock, 0, WIDTH);
            }
        }

        void copyFrom(Past other) {
            size = other.size;
            System.arraycopy(other.cells, 0, cells, 0, size * WIDTH);
        }
    }

    /** All that an image keeps. */
    private static final class Valley {
        static final int WIDEST = 40;
        static final int WINDS = 6;
        static final int HEAVIEST = 9;
        // The cells of the cock, numbered as now() asks for them; the hour is undone with it.
        static final int KIND = 0, WEIGHT = 1, HILL = 2, UP = 3, KEPT = 4, DROPS = 5, HOUR = 6;
        static final int COCK_CELLS = 7;

        private int wide = 10;
        private final int[] winds = new int[WINDS];
        private final int[] cock = new int[COCK_CELLS];
        private final Rows players = new Rows(7, 3);
        private final Rows seen = new Rows(5, 3);
        private final Rows notes = new Rows(6, 4);
        private final Rows marks = new Rows(6, 4);
        private final Past past = new Past();

        Valley() {
            cock[WEIGHT] = 1;
            cock[UP] = 1;
        }

        void start(int newWide) {
            wide = newWide;
            Arrays.fill(winds, 0);
            Arrays.fill(cock, 0);
            cock[WEIGHT] = 1;
            cock[UP] = 1;
            players.empty();
            seen.empty();
            notes.empty();
            marks.empty();
            past.forgetAll();
        }

        void copyFrom(Valley other) {
            wide = other.wide;
            System.arraycopy(other.winds, 0, winds, 0, WINDS);
            System.arraycopy(other.cock, 0, cock, 0, COCK_CELLS);
            players.copyFrom(other.players);
            seen.copyFrom(other.seen);
            notes.copyFrom(other.notes);
            marks.copyFrom(other.marks);
            past.copyFrom(other.past);
        }

        int hour() {
            return cock[HOUR];
        }

        int hill() {
            return cock[HILL];
        }

        boolean isUp() {
            return cock[UP] == 1;
        }

        int windIn(int hour) {
            return winds[Math.floorMod(hour, WINDS)];
        }

        int helpFrom(int hill, int hour) {
            return help(hill, winds[Math.floorMod(hour, WINDS)]);
        }

        int force(int p, int hour) {
            return Kinds.blow(players.cell(p, 0), players.cell(p, 2), Math.floorMod(hour, 24));
        }

        int flightFrom(int p, int hill, int hour, int weight) {
            return Kinds.flight(cock[KIND], weight, force(p, hour), helpFrom(hill, hour));
        }

        int reachOf(int p, int hour) {
            return flightFrom(p, players.cell(p, 1), hour, cock[WEIGHT]);
        }

        /** Whether his stroke would come over from where he stands, if the cock were so heavy. */
        boolean carriesWeight(int p, int hour, int weight) {
            return flightFrom(p, players.cell(p, 1), hour, weight) >= wide;
        }

        boolean carries(int p, int hour) {
            return flightFrom(p, players.cell(p, 1), hour, cock[WEIGHT]) >= wide;
        }

        boolean carriesInWind(int p, int wind) {
            int help = help(players.cell(p, 1), wind);
            return Kinds.flight(cock[KIND], cock[WEIGHT], force(p, hour()), help) >= wide;
        }

        boolean isOn(int p, int hill) {
            return players.has(p) && players.cell(p, 1) == hill;
        }

        boolean canStrike(int p) {
            return isUp() && isOn(p, hill()) && hour() < LAST_HOUR;
        }

        int everybody() {
            return (1 << players.size()) - 1;
        }

        int playersOn(int hill) {
            int bits = 0;
            for (int p = 0; p < players.size(); p++) {
                if (isOn(p, hill)) {
                    bits |= 1 << p;
                }
            }
            return bits;
        }

        /** Players who would carry it over from this hill, wherever they stand. */
        int carriersFrom(int hill, int hour) {
            int bits = 0;
            for (int p = 0; p < players.size(); p++) {
                if (flightFrom(p, hill, hour, cock[WEIGHT]) >= wide) {
                    bits |= 1 << p;
                }
            }
            return bits;
        }

        int carriersOn(int hill, int hour) {
            int bits = 0;
            for (int p = 0; p < players.size(); p++) {
                if (isOn(p, hill) && carries(p, hour)) {
                    bits |= 1 << p;
                }
            }
            return bits;
        }

        void remember() {
            past.push(cock);
        }

        int strike(int p) {
            boolean over = carries(p, hour());
            if (over) {
                cock[HILL] = 1 - cock[HILL];
                cock[KEPT]++;
            } else {
                cock[UP] = 0;
                cock[DROPS]++;
                cock[KEPT] = 0;
            }
            letPass(1);
            return over ? 1 : 0;
        }

        void pickUp(int hill) {
            cock[HILL] = hill;
            cock[UP] = 1;
        }

        void feather(int kind, int weight) {
            cock[KIND] = kind;
            cock[WEIGHT] = weight;
        }

        void letPass(int n) {
            cock[HOUR] = Math.min(LAST_HOUR, cock[HOUR] + n);
        }

        long foldInto(long start) {
            long h = start;
            for (int what = 0; what <= DROPS; what++) {
                h = 31 * h + cock[what];
            }
            for (int i = 0; i < WINDS; i++) {
                h = 31 * h + winds[i];
            }
            h = players.foldInto(h);
            h = seen.foldInto(h);
            h = notes.foldInto(h);
            return marks.foldInto(h);
        }

        private static int help(int hill, int wind) {
            return hill == 0 ? wind : -wind;
        }
    }

    /** The text that tells a valley, and its tokens one by one. */
    private static final class Text {
        static final int MOST = 150;
        static final int END = 0, WORD = 1, NUMBER = 2, STOP = 3, WRONG = 4;

        private final int[] bytes = new int[MOST];
        private int size = 0;
        private int token = END;
        private int start = 0;
        private int end = 0;

        int size() {
            return size;
        }

        boolean isFull() {
            return size >= MOST;
        }

        int append(int c) {
            if (!isFull()) {
                bytes[size] = c;
                size++;
            }
            return size;
        }

        int empty() {
            int before = size;
            size = 0;
            return before;
        }

        int token() {
            return token;
        }

        int tokenStart() {
            return start;
        }

        void rewind() {
            end = 0;
            advance();
        }

        void advance() {
            start = end;
            while (start < size && bytes[start] == ' ') {
                start++;
            }
            end = start;
            if (start >= size) {
                token = END;
            } else if (isLetter(bytes[start])) {
                token = WORD;
                while (end < size && isLetter(bytes[end])) {
                    end++;
                }
            } else if (isFigure(bytes[start])) {
                while (end < size && isFigure(bytes[end])) {
                    end++;
                }
                token = end - start <= 2 ? NUMBER : WRONG;
            } else {
                token = bytes[start] == ';' ? STOP : WRONG;
                end++;
            }
        }

        boolean isWord(String word) {
            if (token != WORD || end - start != word.length()) {
                return false;
            }
            for (int i = 0; i < word.length() && start + i < MOST; i++) {
                if (bytes[start + i] != word.charAt(i)) {
                    return false;
                }
            }
            return true;
        }

        /** The number that stands here, or NONE. */
        int number() {
            if (token != NUMBER) {
                return NONE;
            }
            int number = 0;
            for (int i = start; i < end && i < MOST; i++) {
                number = 10 * number + bytes[i] - '0';
            }
            return number;
        }

        private static boolean isLetter(int c) {
            return c >= 'a' && c <= 'z';
        }

        private static boolean isFigure(int c) {
            return c >= '0' && c <= '9';
        }
    }

    /** Reads the text into a draft; where a token can not stand, it stays before that token. */
    private static final class Reader {
        private final Text text = new Text();
        private final Valley draft = new Valley();
        private int taken = 0;

        boolean readValley() {
            if (!text.isWord("valley")) {
                return false;
            }
            text.advance();
            if (!takeNumber(1, Valley.WIDEST)) {
                return false;
            }
            draft.start(taken);
            return takeStop();
        }

        boolean readItem() {
            if (text.isWord("wind")) {
                return readWind();
            }
            if (text.isWord("cock")) {
                return readCock();
            }
            if (text.isWord("player")) {
                return readPlayer();
            }
            if (text.isWord("hit")) {
                return readHit();
            }
            if (text.isWord("pick")) {
                return readPick();
            }
            return text.isWord("hours") && readHours();
        }

        private boolean readWind() {
            text.advance();
            int many = 0;
            while (many < Valley.WINDS && takeNumber(0, 8)) {
                draft.winds[many] = taken - 4;
                many++;
            }
            return many > 0 && takeStop();
        }

        private boolean readCock() {
            text.advance();
            if (!takeNumber(0, Kinds.MANY - 1)) {
                return false;
            }
            int kind = taken;
            if (!takeNumber(1, Valley.HEAVIEST)) {
                return false;
            }
            draft.feather(kind, taken);
            return takeStop();
        }

        private boolean readPlayer() {
            if (draft.players.isFull()) {
                return false;
            }
            text.advance();
            if (!takeNumber(0, Kinds.MANY - 1)) {
                return false;
            }
            int kind = taken;
            if (!takeNumber(0, 1)) {
                return false;
            }
            int hill = taken;
            if (!takeNumber(1, 9)) {
                return false;
            }
            draft.players.add(kind, hill, taken, 0);
            return takeStop();
        }

        private boolean readHit() {
            text.advance();
            int p = text.number();
            if (!draft.canStrike(p)) {
                return false;
            }
            draft.strike(p);
            text.advance();
            return takeStop();
        }

        private boolean readPick() {
            if (draft.isUp()) {
                return false;
            }
            text.advance();
            if (!takeNumber(0, 1)) {
                return false;
            }
            draft.pickUp(taken);
            return takeStop();
        }

        private boolean readHours() {
            text.advance();
            if (!takeNumber(1, 99)) {
                return false;
            }
            draft.letPass(taken);
            return takeStop();
        }

        private boolean takeNumber(int least, int most) {
            int number = text.number();
            if (!isWithin(number, least, most)) {
                return false;
            }
            taken = number;
            text.advance();
            return true;
        }

        private boolean takeStop() {
            if (text.token() != Text.STOP) {
                return false;
            }
            text.advance();
            return true;
        }
    }

    /** How long it is kept up, by who stands where. */
    private static final class Standing {
        private static final int LONGEST = 60;
        private final int[] carriers = new int[LONGEST];
        private int firstHill = 0;

        /** None is missed, so the hill that it is on changes with every hour. */
        void watch(Valley valley) {
            firstHill = valley.hill();
            for (int i = 0; i < LONGEST; i++) {
                carriers[i] = valley.carriersFrom(hillIn(i), valley.hour() + i);
                // Where nobody could, no way goes on: what stands behind is never looked at.
                if (carriers[i] == 0) {
                    break;
                }
            }
        }

        int strokes(int onHillOne) {
            for (int i = 0; i < LONGEST; i++) {
                int there = hillIn(i) == 1 ? onHillOne : ~onHillOne;
                if ((carriers[i] & there) == 0) {
                    return i;
                }
            }
            return LONGEST;
        }

        /** Who stands on hill 1 in the first way by which it lasts longest. */
        int firstBestWay(int players) {
            int best = 0;
            int longest = -1;
            for (int order = 0; order < 1 << players && longest < LONGEST; order++) {
                int way = mirrored(order, players);
                int strokes = strokes(way);
                if (strokes > longest) {
                    longest = strokes;
                    best = way;
                }
            }
            return best;
        }

        private int hillIn(int i) {
            return (firstHill + i) % 2;
        }

        // Ways rise by player 0 first, whose bit is the lowest: so the order's highest bit is his.
        private static int mirrored(int order, int players) {
            int way = 0;
            for (int p = 0; p < players; p++) {
                way |= (order >> (players - 1 - p) & 1) << p;
            }
            return way;
        }
    }

    /**
     * The soonest rally. A spot is where the cock is (the hill's bit) and which told ones have
     * struck (their bits); of each spot the hours in which it may be stood on are kept as bits.
     */
    private static final class Rally {
        private static final int MOST_HOURS = 20;
        private static final int MOST_PLAYERS = 7;
        private static final int HILL_BIT = 1 << MOST_PLAYERS;
        private static final int SPOTS = 2 * HILL_BIT;
        private static final int NO_STEP = -9;

        private final int[] carriers = new int[2 * MOST_HOURS];
        private final int[] reached = new int[SPOTS];
        private final int[] finishing = new int[SPOTS];
        private int told = 0;
        private int first = 0;

        /** The fewest hours, or NONE. */
        int fewestHours(Valley valley, int players) {
            told = players & (HILL_BIT - 1);
            first = valley.hill() == 1 ? HILL_BIT : 0;
            if (told == 0) {
                return 0;
            }
            if (!valley.isUp()) {
                return NONE;
            }
            Arrays.fill(reached, 0);
            reached[first] = 1;
            for (int t = 0; t < MOST_HOURS; t++) {
                carriers[2 * t] = valley.carriersOn(0, valley.hour() + t);
                carriers[2 * t + 1] = valley.carriersOn(1, valley.hour() + t);
                spread(t);
                if (((reached[told] | reached[told | HILL_BIT]) >> (t + 1) & 1) != 0) {
                    return t + 1;
                }
            }
            return NONE;
        }

        /** Who strikes in the k-th hour, when fewestHours has just answered this many. */
        int strikerIn(int k, int hours) {
            workBack(Math.min(hours, MOST_HOURS));
            int spot = first;
            int striker = NONE;
            for (int t = 0; t <= k && t < MOST_HOURS; t++) {
                striker = firstStep(spot, t);
                if (striker == NO_STEP) {
                    return NONE;
                }
                spot = after(spot, striker);
            }
            return striker;
        }

        private void spread(int t) {
            for (int spot = 0; spot < SPOTS; spot++) {
                if ((reached[spot] >> t & 1) != 0) {
                    for (int p = NONE; p < MOST_PLAYERS; p++) {
                        if (mayStep(spot, t, p)) {
                            reached[after(spot, p)] |= 1 << (t + 1);
                        }
                    }
                }
            }
        }

        private void workBack(int hours) {
            Arrays.fill(finishing, 0);
            finishing[told] = 1 << hours;
            finishing[told | HILL_BIT] = 1 << hours;
            for (int t = hours - 1; t >= 0; t--) {
                for (int spot = 0; spot < SPOTS; spot++) {
                    if ((reached[spot] >> t & 1) != 0 && firstStep(spot, t) != NO_STEP) {
                        finishing[spot] |= 1 << t;
                    }
                }
            }
        }

        private int firstStep(int spot, int t) {
            for (int p = NONE; p < MOST_PLAYERS; p++) {
                if (mayStep(spot, t, p) && (finishing[after(spot, p)] >> (t + 1) & 1) != 0) {
                    return p;
                }
            }
            return NO_STEP;
        }

        private boolean mayStep(int spot, int t, int p) {
            if (p == NONE) {
                return true;
            }
            int hill = spot >> MOST_PLAYERS & 1;
            int row = 2 * t + hill;
            return row >= 0 && row < 2 * MOST_HOURS && (carriers[row] >> p & 1) != 0;
        }

        private int after(int spot, int p) {
            return p == NONE ? spot : (spot ^ HILL_BIT | told & 1 << p) & (SPOTS - 1);
        }
    }

    /**
     * What may be so, by all that was seen, noted and marked, and what to try next. Of what is
     * tried, no part is ever smaller than 1: a search ends there, and does not begin if none is left.
     */
    private static final class Guess {
        static final int HARDEST = 30;
        private final int[] measures = new int[Kinds.MANY];

        /** Weights (bits 1 to 9) by which all seen strokes are so. */
        int weights(Valley valley) {
            int bits = 0;
            for (int g = 1; g <= Valley.HEAVIEST; g++) {
                if (fitsSeen(valley, g)) {
                    bits |= 1 << g;
                }
            }
            return bits;
        }

        int tellingHour(Valley valley, int p, int weights) {
            int best = NONE;
            int fewest = Integer.bitCount(weights) + 1;
            for (int h = 0; h < 24 && fewest > 1; h++) {
                int part = greaterPart(valley, p, h, weights);
                if (part < fewest) {
                    fewest = part;
                    best = h;
                }
            }
            return best;
        }

        int cockKinds(Valley valley) {
            int bits = 0;
            for (int kind = 0; kind < Kinds.MANY; kind++) {
                if (fitsNotes(valley.notes, kind)) {
                    bits |= 1 << kind;
                }
            }
            return bits;
        }

        int nextLook(Valley valley) {
            int kinds = cockKinds(valley);
            int weight = valley.cock[Valley.WEIGHT];
            int best = NONE;
            int fewest = Integer.bitCount(kinds) + 1;
            for (int x = 0; x <= HARDEST && fewest > 1; x++) {
                for (int w = -4; w <= 4; w++) {
                    int most = mostAsFar(kinds, weight, x, w);
                    if (most < fewest) {
                        fewest = most;
                        best = 10 * x + w + 4;
                    }
                }
            }
            return best;
        }

        int playerKinds(Valley valley, int p) {
            int bits = 0;
            for (int kind = 0; kind < Kinds.MANY; kind++) {
                if (fitsMarks(valley.marks, p, kind)) {
                    bits |= 1 << kind;
                }
            }
            return bits;
        }

        int askingHour(Valley valley, int p) {
            int kinds = playerKinds(valley, p);
            int arm = valley.players.cell(p, 2);
            int best = NONE;
            int fewest = Integer.bitCount(kinds) + 1;
            for (int t = 0; t < 24 && fewest > 1; t++) {
                int most = mostAsHard(kinds, arm, t);
                if (most < fewest) {
                    fewest = most;
                    best = t;
                }
            }
            return best;
        }

        private static boolean fitsSeen(Valley valley, int weight) {
            Rows seen = valley.seen;
            for (int i = 0; i < seen.size(); i++) {
                boolean over = valley.carriesWeight(seen.cell(i, 0), seen.cell(i, 1), weight);
                if (over != (seen.cell(i, 2) == 1)) {
                    return false;
                }
            }
            return true;
        }

        private static int greaterPart(Valley valley, int p, int hour, int weights) {
            int over = 0;
            int fallenShort = 0;
            for (int g = 1; g <= Valley.HEAVIEST; g++) {
                if ((weights >> g & 1) != 0) {
                    if (valley.carriesWeight(p, hour, g)) {
                        over++;
                    } else {
                        fallenShort++;
                    }
                }
            }
            return Math.max(over, fallenShort);
        }

        private static boolean fitsNotes(Rows notes, int kind) {
            for (int i = 0; i < notes.size(); i++) {
                int far = Kinds.flight(kind, notes.cell(i, 0), notes.cell(i, 1), notes.cell(i, 2));
                if (far != notes.cell(i, 3)) {
                    return false;
                }
            }
            return true;
        }

        private static boolean fitsMarks(Rows marks, int p, int kind) {
            for (int i = 0; i < marks.size(); i++) {
                int hard = Kinds.blow(kind, marks.cell(i, 1), marks.cell(i, 2));
                if (marks.cell(i, 0) == p && hard != marks.cell(i, 3)) {
                    return false;
                }
            }
            return true;
        }

        private int mostAsFar(int kinds, int weight, int x, int w) {
            for (int kind = 0; kind < Kinds.MANY; kind++) {
                measures[kind] = Kinds.flight(kind, weight, x, w);
            }
            return mostAlike(kinds);
        }

        private int mostAsHard(int kinds, int arm, int t) {
            for (int kind = 0; kind < Kinds.MANY; kind++) {
                measures[kind] = Kinds.blow(kind, arm, t);
            }
            return mostAlike(kinds);
        }

        /** The most of these kinds (bits) whose measures are alike. */
        private int mostAlike(int kinds) {
            int most = 0;
            for (int kind = 0; kind < Kinds.MANY; kind++) {
                if ((kinds >> kind & 1) != 0) {
                    most = Math.max(most, asMany(kinds, measures[kind]));
                }
            }
            return most;
        }

        private int asMany(int kinds, int measure) {
            int many = 0;
            for (int kind = 0; kind < Kinds.MANY; kind++) {
                if ((kinds >> kind & 1) != 0 && measures[kind] == measure) {
                    many++;
                }
            }
            return many;
        }
    }

    /** Two who would each have the other strike. */
    private static final class Calls {
        /** Neither gets more by doing otherwise, the other one doing as he does. */
        static boolean rests(int a, int b, boolean overByA, boolean overByB) {
            return gain(a, b, overByA, overByB) >= gain(1 - a, b, overByA, overByB)
                    && gain(b, a, overByB, overByA) >= gain(1 - b, a, overByB, overByA);
        }

        /** What one gets who calls (1) or not (0), the other one so. */
        private static int gain(int mine, int other, boolean overByMe, boolean overByOther) {
            if (mine == other) {
                return -1 - mine;
            }
            if (mine == 1) {
                return (overByMe ? 2 : -2) - 1;
            }
            return overByOther ? 3 : -2;
        }
    }
}
