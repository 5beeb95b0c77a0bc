import java.util.Arrays;

/** A nave of 25 cells, what is said in them, and the harrow that goes over it. */
public final class HarrowSaid {
    public static final int NONE = -1, BAD = -2, NO = -3, FULL = -4;

    private static final int SIDE = 5;
    private static final int CELLS = 25;
    private static final int KINDS = 6;
    private static final int STEPS = 4;
    private static final int DEPTHS = 10;
    private static final int AGES = 100;
    private static final int STONES = 5;
    private static final int LAST_WEEK = 9999;
    private static final int LOOK_AHEAD = 60;
    private static final int TALLEST = 20;
    private static final int TELL_AGES = 21;
    private static final int IN_EAR = 8;
    private static final int TEXT_LIMIT = 150;
    private static final int SEEN_LIMIT = 5;
    private static final int SEEN_WIDTH = 4;
    private static final int MARK_LIMIT = 6;
    private static final int MARK_WIDTH = 3;
    private static final int IMAGES = 2;
    private static final int WAY_LIMIT = 5;
    private static final int NOT_SO_MANY = -5;
    private static final int BAD_TEN = -10;

    private final State now;
    private final State[] images;
    private final boolean[] kept;
    private final Nave spare;
    private final Way path;
    private final Text text;
    private final int[] values;
    private long above;
    private long below;
    private int bads;
    private int noes;
    private int fulls;

    public HarrowSaid() {
        now = new State();
        images = new State[IMAGES];
        for (int i = 0; i < IMAGES; i++) {
            images[i] = new State();
        }
        kept = new boolean[IMAGES];
        spare = new Nave();
        path = new Way();
        text = new Text();
        values = new int[KINDS];
        below = 1;
    }

    // ---- a nave

    public int nave(int kind, int c) {
        if (!isBelow(kind, KINDS) || !isBelow(c, CELLS)) {
            return refuseBad();
        }
        int lay = now.nave.filled();
        now.nave.begin(kind, c);
        now.dropNotes();
        return lay;
    }

    public int harrow(int kind) {
        if (!isBelow(kind, KINDS)) {
            return refuseBad();
        }
        int was = now.nave.harrow;
        now.nave.harrow = kind;
        now.past.size = 0;
        return was;
    }

    public int stony(int c, int s) {
        if (!isBelow(c, CELLS) || !isBelow(s, STONES)) {
            return refuseBad();
        }
        int was = now.nave.stony[c];
        now.nave.stony[c] = s;
        now.past.size = 0;
        return was;
    }

    public int type(int c) {
        if (!isBelow(c, 128)) {
            return refuseBad();
        }
        if (text.size >= TEXT_LIMIT) {
            return refuseFull();
        }
        text.bytes[text.size] = c;
        text.size++;
        return text.size;
    }

    public int clear() {
        int had = text.size;
        text.size = 0;
        return had;
    }

    public int read() {
        int items = text.readItems();
        if (items >= 0) {
            now.nave.copyFrom(text.nave);
            now.dropNotes();
        }
        return items;
    }

    // ---- weeks

    public int says(int c, int kind) {
        if (!isBelow(c, CELLS) || !isBelow(kind, KINDS)) {
            return refuseBad();
        }
        if (now.nave.liesIn(c)) {
            return refuseNo();
        }
        now.past.keep(now.nave);
        now.nave.put(c, kind);
        return now.nave.filled();
    }

    public int drags(int d) {
        if (!isBelow(d, STEPS)) {
            return refuseBad();
        }
        int cell = beside(now.nave.at, d);
        if (cell == NONE) {
            return refuseNo();
        }
        now.past.keep(now.nave);
        now.nave.stepTo(cell);
        return cell;
    }

    public int reaps(int c) {
        if (!isBelow(c, CELLS)) {
            return refuseBad();
        }
        if (!now.nave.liesIn(c)) {
            return refuseNo();
        }
        int stood = now.nave.heightAfter(c, 0);
        now.past.keep(now.nave);
        now.nave.take(c);
        return stood;
    }

    public int weeks(int n) {
        if (n < 1 || n > LOOK_AHEAD) {
            return refuseBad();
        }
        // At the last WEEK none goes by, so that nothing is there to be undone.
        if (now.nave.week < LAST_WEEK) {
            now.past.keep(now.nave);
        }
        for (int i = 0; i < n && now.nave.week < LAST_WEEK; i++) {
            now.nave.passWeek();
        }
        return now.nave.greenAfter(0);
    }

    public int undo() {
        if (now.past.size == 0) {
            return refuseNo();
        }
        now.past.bringBack(now.nave);
        return now.nave.week;
    }

    public int of(int c, int what) {
        if (!isBelow(c, CELLS)) {
            return refuseBad();
        }
        switch (what) {
            case 0:
                return now.nave.stony[c];
            case 1:
                return now.nave.kindIn(c);
            case 2:
                return now.nave.depthIn(c);
            case 3:
                return now.nave.ageIn(c);
            case 4:
                return now.nave.heightAfter(c, 0);
            case 5:
                return now.nave.dragIn(c);
            default:
                return refuseBad();
        }
    }

    // ---- how high

    public int high(int c, int m) {
        if (!isBelow(c, CELLS) || !isLookAhead(m)) {
            return refuseBad();
        }
        return now.nave.heightAfter(c, m);
    }

    public int when(int c, int x) {
        if (!isBelow(c, CELLS) || x < 1 || x > TALLEST) {
            return refuseBad();
        }
        for (int m = 0; m <= LOOK_AHEAD; m++) {
            if (now.nave.heightAfter(c, m) >= x) {
                return m;
            }
        }
        return NONE;
    }

    public int green(int m) {
        if (!isLookAhead(m)) {
            return refuseBad();
        }
        return now.nave.greenAfter(m);
    }

    public int way(int cells, int k) {
        if (!isBelow(cells, 1 << CELLS) || Integer.bitCount(cells) > WAY_LIMIT || k < NONE) {
            return refuseBadTen();
        }
        path.prepare(cells);
        int all = path.fewestFrom(now.nave.at);
        if (k == NONE) {
            return all;
        }
        return k < all ? path.stepFrom(now.nave.at, k) : NOT_SO_MANY;
    }

    public int three(int m, int what) {
        if (!isLookAhead(m) || !isBelow(what, 2)) {
            return refuseBad();
        }
        int most = NONE;
        int best = 0;
        for (int t = 0; t < STEPS * STEPS * STEPS; t++) {
            int first = t / (STEPS * STEPS);
            int second = t / STEPS % STEPS;
            int third = t % STEPS;
            int greens = greensByThree(first, second, third, m);
            if (greens > most) {
                most = greens;
                best = 100 * first + 10 * second + third;
            }
        }
        return what == 0 ? most : best;
    }

    // ---- what was said

    public int seen(int c, int d, int a, int x) {
        if (!isBelow(c, CELLS) || !isBelow(d, DEPTHS) || !isBelow(a, AGES) || !isBelow(x, TALLEST + 1)) {
            return refuseBad();
        }
        if (now.seenSize >= SEEN_LIMIT) {
            return refuseFull();
        }
        int from = now.seenSize * SEEN_WIDTH;
        now.seen[from] = c;
        now.seen[from + 1] = d;
        now.seen[from + 2] = a;
        now.seen[from + 3] = x;
        now.seenSize++;
        return now.seenSize;
    }

    public int said(int c) {
        if (!isBelow(c, CELLS)) {
            return refuseBad();
        }
        return sayingsFor(c);
    }

    public int tell(int c) {
        if (!isBelow(c, CELLS)) {
            return refuseBad();
        }
        int fitting = sayingsFor(c);
        int fewest = KINDS + 1;
        int best = NONE;
        for (int look = 0; look < DEPTHS * TELL_AGES && fitting != 0; look++) {
            int d = look / TELL_AGES;
            int a = look % TELL_AGES;
            for (int kind = 0; kind < KINDS; kind++) {
                values[kind] = Saying.stands(kind, d, a);
            }
            int alike = mostAlike(fitting);
            if (alike < fewest) {
                fewest = alike;
                best = 100 * d + a;
            }
        }
        return best;
    }

    public int mark(int s, int d, int x) {
        if (!isBelow(s, STONES) || !isBelow(d, DEPTHS) || !isBelow(x, 10)) {
            return refuseBad();
        }
        if (now.markSize >= MARK_LIMIT) {
            return refuseFull();
        }
        int from = now.markSize * MARK_WIDTH;
        now.marks[from] = s;
        now.marks[from + 1] = d;
        now.marks[from + 2] = x;
        now.markSize++;
        return now.markSize;
    }

    public int forget(int what) {
        if (!isBelow(what, 2)) {
            return refuseBad();
        }
        int were = what == 0 ? now.seenSize : now.markSize;
        if (what == 0) {
            now.seenSize = 0;
        } else {
            now.markSize = 0;
        }
        return were;
    }

    public int kinds() {
        return harrowsThatFit();
    }

    public int ask() {
        int fitting = harrowsThatFit();
        int fewest = KINDS + 1;
        int best = NONE;
        for (int look = 0; look < STONES * DEPTHS && fitting != 0; look++) {
            int s = look / DEPTHS;
            int d = look % DEPTHS;
            for (int kind = 0; kind < KINDS; kind++) {
                values[kind] = Harrow.dragsBy(kind, d, s);
            }
            int alike = mostAlike(fitting);
            if (alike < fewest) {
                fewest = alike;
                best = 10 * s + d;
            }
        }
        return best;
    }

    public int deep(int c, int d) {
        if (!isBelow(c, CELLS) || !isBelow(d, DEPTHS)) {
            return refuseBad();
        }
        int bits = 0;
        for (int lay = 0; lay < DEPTHS; lay++) {
            if (Harrow.depthAfter(now.nave.harrow, lay, now.nave.stony[c]) == d) {
                bits |= 1 << lay;
            }
        }
        return bits;
    }

    public int sparrow(int r, int k) {
        if (!isBelow(r, SIDE) || k < NONE) {
            return refuseBadTen();
        }
        int found = 0;
        for (int pair = 0; pair < SIDE * SIDE; pair++) {
            int i = pair / SIDE;
            int j = pair % SIDE;
            if (rests(r, i, j)) {
                if (found == k) {
                    return 10 * i + j;
                }
                found++;
            }
        }
        return k == NONE ? found : NOT_SO_MANY;
    }

    public int frost(int cell, int c) {
        if (!isBelow(cell, CELLS) || !isBelow(c, 11)) {
            return refuseBad();
        }
        if (now.nave.depthIn(cell) >= 1) {
            setFraction(1, 1);
        } else if (now.nave.dragIn(cell) >= 1) {
            setFraction(100 - c * c, 100);
        } else {
            setFraction(0, 1);
        }
        return 1;
    }

    public int years(int seed, int n) {
        if (!isBelow(seed, 1000000) || !isLookAhead(n)) {
            return refuseBad();
        }
        spare.copyFrom(now.nave);
        long x = seed;
        for (int week = 0; week < n; week++) {
            x = (x * 1103515245L + 12345L) % 2147483648L;
            int c = (int) (x / 1048576 % CELLS);
            if (!spare.liesIn(c)) {
                spare.put(c, (int) (x / 65536 % KINDS));
            }
            int cell = beside(spare.at, (int) (x / 16384 % STEPS));
            if (cell != NONE) {
                spare.stepTo(cell);
            }
            spare.passWeek();
        }
        return spare.greenAfter(0);
    }

    // ---- what there is

    public long part(int what) {
        if (!isBelow(what, 2)) {
            return refuseBad();
        }
        return what == 0 ? above : below;
    }

    public int image(int i) {
        if (!isBelow(i, IMAGES)) {
            return refuseBad();
        }
        images[i].takeFrom(now);
        kept[i] = true;
        return 1;
    }

    public int from(int i) {
        if (!isBelow(i, IMAGES)) {
            return refuseBad();
        }
        if (!kept[i]) {
            return refuseNo();
        }
        now.takeFrom(images[i]);
        return 1;
    }

    public int status(int what) {
        switch (what) {
            case 0:
                return bads;
            case 1:
                return noes;
            case 2:
                return fulls;
            default:
                bads++;
                return NONE;
        }
    }

    public int count(int what) {
        if (!isBelow(what, 10)) {
            return refuseBad();
        }
        return howMany(what);
    }

    public long digest() {
        long h = 1741;
        for (int what = 0; what < 10; what++) {
            h = 31 * h + howMany(what);
        }
        for (int c = 0; c < CELLS; c++) {
            h = 31 * h + now.nave.stony[c];
            h = 31 * h + now.nave.kindIn(c);
            h = 31 * h + now.nave.depthIn(c);
            h = 31 * h + now.nave.ageIn(c);
        }
        for (int i = 0; i < now.seenSize * SEEN_WIDTH; i++) {
            h = 31 * h + now.seen[i];
        }
        for (int i = 0; i < now.markSize * MARK_WIDTH; i++) {
            h = 31 * h + now.marks[i];
        }
        h = 31 * h + above;
        return 31 * h + below;
    }

    // ---- what the calls lean on

    private int refuseBad() {
        bads++;
        return BAD;
    }

    private int refuseBadTen() {
        bads++;
        return BAD_TEN;
    }

    private int refuseNo() {
        noes++;
        return NO;
    }

    private int refuseFull() {
        fulls++;
        return FULL;
    }

    private static boolean isBelow(int number, int bound) {
        return number >= 0 && number < bound;
    }

    private static boolean isLookAhead(int m) {
        return m >= 0 && m <= LOOK_AHEAD;
    }

    /** NONE, if the STEP leads out of the nave: who asks must look, ahead of using it as a CELL. */
    private static int beside(int cell, int step) {
        int row = cell / SIDE;
        int column = cell % SIDE;
        switch (step) {
            case 0:
                row--;
                break;
            case 1:
                column++;
                break;
            case 2:
                row++;
                break;
            default:
                column--;
                break;
        }
        return isBelow(row, SIDE) && isBelow(column, SIDE) ? row * SIDE + column : NONE;
    }

    /** NONE, if a STEP leads out, so that such three are never the most. */
    private int greensByThree(int first, int second, int third, int m) {
        int one = beside(now.nave.at, first);
        int two = one == NONE ? NONE : beside(one, second);
        int three = two == NONE ? NONE : beside(two, third);
        if (three == NONE) {
            return NONE;
        }
        spare.copyFrom(now.nave);
        spare.stepTo(one);
        spare.stepTo(two);
        spare.stepTo(three);
        return spare.greenAfter(m);
    }

    private int sayingsFor(int c) {
        int bits = 0;
        for (int kind = 0; kind < KINDS; kind++) {
            if (fitsSeen(kind, c)) {
                bits |= 1 << kind;
            }
        }
        return bits;
    }

    private boolean fitsSeen(int kind, int c) {
        for (int i = 0; i < now.seenSize; i++) {
            int from = i * SEEN_WIDTH;
            int height = Saying.stands(kind, now.seen[from + 1], now.seen[from + 2]);
            if (now.seen[from] == c && height != now.seen[from + 3]) {
                return false;
            }
        }
        return true;
    }

    private int harrowsThatFit() {
        int bits = 0;
        for (int kind = 0; kind < KINDS; kind++) {
            if (fitsMarks(kind)) {
                bits |= 1 << kind;
            }
        }
        return bits;
    }

    private boolean fitsMarks(int kind) {
        for (int i = 0; i < now.markSize; i++) {
            int from = i * MARK_WIDTH;
            if (Harrow.dragsBy(kind, now.marks[from + 1], now.marks[from]) != now.marks[from + 2]) {
                return false;
            }
        }
        return true;
    }

    /** However a look turns out, no more of the told KINDS than these are left behind it. */
    private int mostAlike(int told) {
        int most = 0;
        for (int one = 0; one < KINDS; one++) {
            int alike = 0;
            for (int other = 0; other < KINDS; other++) {
                if ((told >> other & 1) == 1 && values[other] == values[one]) {
                    alike++;
                }
            }
            if ((told >> one & 1) == 1) {
                most = Math.max(most, alike);
            }
        }
        return most;
    }

    private int sparrowGets(int r, int i, int j) {
        return i != j && now.nave.depthIn(r * SIDE + j) == 0 ? 5 : -1;
    }

    private int curateGets(int r, int i, int j) {
        int gets = now.nave.liesIn(r * SIDE + i) ? 4 : 0;
        return sparrowGets(r, i, j) == 5 ? gets - 2 : gets;
    }

    private boolean rests(int r, int i, int j) {
        for (int other = 0; other < SIDE; other++) {
            if (curateGets(r, other, j) > curateGets(r, i, j) || sparrowGets(r, i, other) > sparrowGets(r, i, j)) {
                return false;
            }
        }
        return true;
    }

    private void setFraction(int top, int bottom) {
        int common = commonDivisor(top, bottom);
        if (common > 0) {
            above = top / common;
            below = bottom / common;
        }
    }

    private static int commonDivisor(int top, int bottom) {
        int a = bottom;
        int b = top;
        for (int i = 0; i < 100 && b > 0; i++) {
            int rest = a % b;
            a = b;
            b = rest;
        }
        return a;
    }

    private int howMany(int what) {
        switch (what) {
            case 0:
                return now.nave.filled();
            case 1:
                return now.nave.greenAfter(0);
            case 2:
                return now.nave.atLeast(IN_EAR, 0);
            case 3:
                return now.nave.week;
            case 4:
                return now.nave.at;
            case 5:
                return now.nave.harrow;
            case 6:
                return now.seenSize;
            case 7:
                return now.markSize;
            case 8:
                return now.past.size;
            default:
                return text.size;
        }
    }

    /** Each KIND leans on the one that it is under, so that all are reckoned from SERMON. */
    private static final class Saying {
        static final int SERMON = 0;
        static final int GRACE = 1;
        static final int HOT = 2;
        static final int LAUD = 3;
        static final int CLOD = 4;

        static int stands(int kind, int d, int a) {
            int sermon = d < 1 ? 0 : a > 9 ? 9 : a;
            int grace = sermon >= 1 ? sermon + 2 : 0;
            int hot = d >= 4 ? 2 * sermon : sermon;
            switch (kind) {
                case SERMON:
                    return sermon;
                case GRACE:
                    return grace;
                case HOT:
                    return hot;
                case LAUD:
                    return a < 6 ? 0 : hot;
                case CLOD:
                    return sermon / 2;
                default:
                    return verse(grace, d);
            }
        }

        static int verse(int grace, int d) {
            if (grace < 1) {
                return 0;
            }
            return grace - d < 1 ? 1 : grace - d;
        }
    }

    /** Each KIND leans on the one that it is under, so that all are reckoned from PLAIN. */
    private static final class Harrow {
        static final int PLAIN = 0;
        static final int GREYS = 1;
        static final int CHAINS = 2;
        static final int CURATES = 3;
        static final int LIGHT = 4;

        static int dragsBy(int kind, int d, int s) {
            int plain = 4 - s;
            int greys = plain + 1;
            int chains = (plain + 1) / 2;
            switch (kind) {
                case PLAIN:
                    return plain;
                case GREYS:
                    return greys;
                case CHAINS:
                    return chains;
                case CURATES:
                    return s <= 1 ? greys + 3 : greys;
                case LIGHT:
                    return chains > 1 ? 1 : chains;
                default:
                    return plain < d ? 0 : plain - d;
            }
        }

        /** Apart from dragsBy, since MARKS and looks tell by how much it drags, though nothing comes below DEPTH 9. */
        static int depthAfter(int kind, int d, int s) {
            int deep = d + dragsBy(kind, d, s);
            return deep < DEPTHS ? deep : DEPTHS - 1;
        }
    }

    /** Apart from what was noted, since looks ahead try things out in a nave of their own. */
    private static final class Nave {
        final int[] stony = new int[CELLS];
        /** A SAYING as one number, 1000 KIND, 100 DEPTH and AGE, or NONE: a nave is copied often. */
        final int[] lies = new int[CELLS];
        int harrow;
        int at;
        int week;

        Nave() {
            Arrays.fill(lies, NONE);
        }

        void begin(int kind, int cell) {
            Arrays.fill(stony, 0);
            Arrays.fill(lies, NONE);
            harrow = kind;
            at = cell;
            week = 0;
        }

        void copyFrom(Nave other) {
            System.arraycopy(other.stony, 0, stony, 0, CELLS);
            System.arraycopy(other.lies, 0, lies, 0, CELLS);
            harrow = other.harrow;
            at = other.at;
            week = other.week;
        }

        boolean liesIn(int c) {
            return lies[c] != NONE;
        }

        int kindIn(int c) {
            return liesIn(c) ? lies[c] / 1000 : NONE;
        }

        int depthIn(int c) {
            return liesIn(c) ? lies[c] / 100 % 10 : NONE;
        }

        int ageIn(int c) {
            return liesIn(c) ? lies[c] % 100 : NONE;
        }

        int dragIn(int c) {
            return liesIn(c) ? Harrow.dragsBy(harrow, depthIn(c), stony[c]) : NONE;
        }

        /** What lies 0 deep stands 0 high now, and is had later: 0 either way. */
        int heightAfter(int c, int m) {
            if (depthIn(c) < 1) {
                return 0;
            }
            return Saying.stands(kindIn(c), depthIn(c), Math.min(ageIn(c) + m, AGES - 1));
        }

        int greenAfter(int m) {
            return atLeast(1, m);
        }

        int atLeast(int height, int m) {
            int many = 0;
            for (int c = 0; c < CELLS; c++) {
                if (heightAfter(c, m) >= height) {
                    many++;
                }
            }
            return many;
        }

        int filled() {
            int many = 0;
            for (int c = 0; c < CELLS; c++) {
                if (liesIn(c)) {
                    many++;
                }
            }
            return many;
        }

        void put(int c, int kind) {
            lies[c] = 1000 * kind;
        }

        void take(int c) {
            lies[c] = NONE;
        }

        void stepTo(int cell) {
            at = cell;
            if (liesIn(cell)) {
                int depth = depthIn(cell);
                int more = Harrow.depthAfter(harrow, depth, stony[cell]) - depth;
                lies[cell] += 100 * more;
            }
        }

        void passWeek() {
            for (int c = 0; c < CELLS; c++) {
                if (depthIn(c) == 0) {
                    take(c);
                } else if (liesIn(c) && ageIn(c) < AGES - 1) {
                    lies[c]++;
                }
            }
            week++;
        }
    }

    /** One row for all that may be undone, since an IMAGE copies it whole; the oldest comes first, for it goes first. */
    private static final class Past {
        static final int LIMIT = 8;
        static final int WIDTH = CELLS + 2;

        final int[] rows = new int[LIMIT * WIDTH];
        int size;

        void copyFrom(Past other) {
            System.arraycopy(other.rows, 0, rows, 0, LIMIT * WIDTH);
            size = other.size;
        }

        void keep(Nave nave) {
            if (size >= LIMIT) {
                System.arraycopy(rows, WIDTH, rows, 0, (LIMIT - 1) * WIDTH);
                size = LIMIT - 1;
            }
            int from = size * WIDTH;
            System.arraycopy(nave.lies, 0, rows, from, CELLS);
            rows[from + CELLS] = nave.at;
            rows[from + CELLS + 1] = nave.week;
            size++;
        }

        void bringBack(Nave nave) {
            if (size > 0) {
                size--;
                int from = size * WIDTH;
                System.arraycopy(rows, from, nave.lies, 0, CELLS);
                nave.at = rows[from + CELLS];
                nave.week = rows[from + CELLS + 1];
            }
        }
    }

    /** Held together because an IMAGE keeps just this. */
    private static final class State {
        final Nave nave = new Nave();
        final Past past = new Past();
        final int[] seen = new int[SEEN_LIMIT * SEEN_WIDTH];
        final int[] marks = new int[MARK_LIMIT * MARK_WIDTH];
        int seenSize;
        int markSize;

        void dropNotes() {
            past.size = 0;
            seenSize = 0;
            markSize = 0;
        }

        void takeFrom(State other) {
            nave.copyFrom(other.nave);
            past.copyFrom(other.past);
            System.arraycopy(other.seen, 0, seen, 0, SEEN_LIMIT * SEEN_WIDTH);
            System.arraycopy(other.marks, 0, marks, 0, MARK_LIMIT * MARK_WIDTH);
            seenSize = other.seenSize;
            markSize = other.markSize;
        }
    }

    /** Nothing bars a way, so that only the order of the told CELLS makes it longer or shorter. */
    private static final class Way {
        static final int SETS = 1 << WAY_LIMIT;
        /** More than any way through five CELLS has. */
        static final int FAR = 1000;

        final int[] told = new int[WAY_LIMIT];
        /** rest[WAY_LIMIT * set + i]: the fewest STEPS from told[i] through a set of told ones. */
        final int[] rest = new int[SETS * WAY_LIMIT];
        int size;

        void prepare(int cells) {
            size = 0;
            for (int c = 0; c < CELLS && size < WAY_LIMIT; c++) {
                if ((cells >> c & 1) == 1) {
                    told[size] = c;
                    size++;
                }
            }
            for (int set = 0; set < 1 << size; set++) {
                for (int i = 0; i < size; i++) {
                    rest[set * WAY_LIMIT + i] = fewest(told[i], set);
                }
            }
        }

        int fewestFrom(int cell) {
            return fewest(cell, without((1 << size) - 1, cell));
        }

        int fewest(int cell, int set) {
            if (set == 0) {
                return 0;
            }
            int least = FAR;
            for (int i = 0; i < size; i++) {
                if ((set >> i & 1) == 1) {
                    int others = set & ~(1 << i);
                    least = Math.min(least, apart(cell, told[i]) + rest[others * WAY_LIMIT + i]);
                }
            }
            return least;
        }

        int without(int set, int cell) {
            for (int i = 0; i < size; i++) {
                if (told[i] == cell) {
                    return set & ~(1 << i);
                }
            }
            return set;
        }

        static int apart(int one, int other) {
            return Math.abs(one / SIDE - other / SIDE) + Math.abs(one % SIDE - other % SIDE);
        }

        /** The least STEP that leaves a shortest rest, taken each time, makes the first of the shortest ways. */
        int stepFrom(int from, int k) {
            int cell = from;
            int set = without((1 << size) - 1, from);
            int step = NONE;
            for (int n = 0; n <= k && n < FAR; n++) {
                step = firstStep(cell, set);
                int next = step == NONE ? NONE : beside(cell, step);
                if (next == NONE) {
                    return NONE;
                }
                cell = next;
                set = without(set, cell);
            }
            return step;
        }

        int firstStep(int cell, int set) {
            int left = fewest(cell, set);
            for (int step = 0; step < STEPS; step++) {
                int next = beside(cell, step);
                if (next != NONE && fewest(next, without(set, next)) == left - 1) {
                    return step;
                }
            }
            return NONE;
        }
    }

    /** THE TEXT is read into a nave of its own, so that a FAULT leaves all else as it was. */
    private static final class Text {
        static final int WORD = 0;
        static final int NUMBER = 1;
        static final int CLOSE = 2;
        static final int STRANGE = 3;
        static final int ENDED = 4;
        static final int FAULT = -10;
        static final int MOST_STEPS = 9;
        static final int MOST_WEEKS = 99;

        final int[] bytes = new int[TEXT_LIMIT];
        final Nave nave = new Nave();
        int size;
        int place;
        int start;
        int token;
        int value;

        /** Below 0 the nave is half read and must not be used: the answer is -10 less the FAULT. */
        int readItems() {
            int items = 0;
            place = 0;
            advance();
            while (items < TEXT_LIMIT && token != ENDED) {
                if (!takesItem(items == 0)) {
                    return FAULT - start;
                }
                items++;
            }
            return items == 0 ? FAULT - start : items;
        }

        /** Goes on to the next TOKEN; ENDED starts at the TEXT's length, where its FAULT is. */
        void advance() {
            while (place < size && bytes[place] == ' ') {
                place++;
            }
            start = place;
            if (place >= size) {
                token = ENDED;
            } else if (isLetter(bytes[place])) {
                advanceWord();
            } else if (isFigure(bytes[place])) {
                advanceNumber();
            } else {
                token = bytes[place] == ';' ? CLOSE : STRANGE;
                place++;
            }
        }

        void advanceWord() {
            while (place < size && isLetter(bytes[place])) {
                place++;
            }
            token = WORD;
        }

        void advanceNumber() {
            value = 0;
            while (place < size && isFigure(bytes[place])) {
                if (place - start < 2) {
                    value = 10 * value + bytes[place] - '0';
                }
                place++;
            }
            token = place - start <= 2 ? NUMBER : STRANGE;
        }

        static boolean isLetter(int sign) {
            return sign >= 'a' && sign <= 'z';
        }

        static boolean isFigure(int sign) {
            return sign >= '0' && sign <= '9';
        }

        /** False, if the TOKEN at start can not stand there, as with all that take something. */
        boolean takesItem(boolean first) {
            boolean stands = false;
            if (token != WORD || first != isWord("nave")) {
                return false;
            } else if (first) {
                stands = takesNave();
            } else if (isWord("stony")) {
                stands = takesStony();
            } else if (isWord("say")) {
                stands = takesSay();
            } else if (isWord("drag")) {
                stands = takesDrag();
            } else if (isWord("weeks")) {
                stands = takesWeeks();
            }
            if (!stands || token != CLOSE) {
                return false;
            }
            advance();
            return true;
        }

        boolean isWord(String word) {
            if (place - start != word.length()) {
                return false;
            }
            for (int i = 0; i < word.length(); i++) {
                if (bytes[start + i] != word.charAt(i)) {
                    return false;
                }
            }
            return true;
        }

        boolean isNumber(int least, int most) {
            return token == NUMBER && value >= least && value <= most;
        }

        boolean takesNave() {
            advance();
            if (!isNumber(0, KINDS - 1)) {
                return false;
            }
            int kind = value;
            advance();
            if (!isNumber(0, CELLS - 1)) {
                return false;
            }
            nave.begin(kind, value);
            advance();
            return true;
        }

        boolean takesStony() {
            advance();
            if (!isNumber(0, CELLS - 1)) {
                return false;
            }
            int c = value;
            advance();
            if (!isNumber(0, STONES - 1)) {
                return false;
            }
            nave.stony[c] = value;
            advance();
            return true;
        }

        boolean takesSay() {
            advance();
            if (!isNumber(0, CELLS - 1) || nave.liesIn(value)) {
                return false;
            }
            int c = value;
            advance();
            if (!isNumber(0, KINDS - 1)) {
                return false;
            }
            nave.put(c, value);
            advance();
            return true;
        }

        /** A number too many, or too large, is left for what ends the ITEM to stumble at. */
        boolean takesDrag() {
            int steps = 0;
            advance();
            while (steps < MOST_STEPS && isNumber(0, STEPS - 1)) {
                int cell = beside(nave.at, value);
                if (cell == NONE) {
                    return false;
                }
                nave.stepTo(cell);
                advance();
                steps++;
            }
            return steps > 0;
        }

        boolean takesWeeks() {
            advance();
            if (!isNumber(1, MOST_WEEKS)) {
                return false;
            }
            int many = value;
            for (int n = 0; n < many; n++) {
                nave.passWeek();
            }
            advance();
            return true;
        }
    }
}
