import java.math.BigInteger;
import java.util.ArrayDeque;
import java.util.ArrayList;
import java.util.Arrays;
import java.util.Collections;
import java.util.HashMap;
import java.util.HashSet;
import java.util.List;
import java.util.Map;
import java.util.Random;
import java.util.Set;
import java.util.TreeMap;
import java.util.function.IntBinaryOperator;
import java.util.regex.Matcher;
import java.util.regex.Pattern;

/** Runs of calls by a seed, beside a slow model that follows the document's words week by week. */
public final class ModelTest {
    private static int wrong = 0;

    static final class Lying {
        int kind;
        int depth;
        int age;

        Lying(int kind, int depth, int age) {
            this.kind = kind;
            this.depth = depth;
            this.age = age;
        }

        Lying twin() {
            return new Lying(kind, depth, age);
        }
    }

    static int height(int kind, int d, int a) {
        switch (kind) {
            case 0: return d >= 1 ? Math.min(a, 9) : 0;
            case 1: return height(0, d, a) >= 1 ? height(0, d, a) + 2 : height(0, d, a);
            case 2: return d >= 4 ? 2 * height(0, d, a) : height(0, d, a);
            case 3: return a < 6 ? 0 : height(2, d, a);
            case 4: return height(0, d, a) / 2;
            default: return height(1, d, a) >= 1 ? Math.max(1, height(1, d, a) - d) : height(1, d, a);
        }
    }

    static int drag(int kind, int d, int s) {
        switch (kind) {
            case 0: return 4 - s;
            case 1: return drag(0, d, s) + 1;
            case 2: return (int) Math.ceil(drag(0, d, s) / 2.0);
            case 3: return s <= 1 ? drag(1, d, s) + 3 : drag(1, d, s);
            case 4: return Math.min(drag(2, d, s), 1);
            default: return Math.max(0, drag(0, d, s) - d);
        }
    }

    static int go(int cell, int step) {
        int row = cell / 5 + (step == 0 ? -1 : step == 2 ? 1 : 0);
        int column = cell % 5 + (step == 1 ? 1 : step == 3 ? -1 : 0);
        return row < 0 || row > 4 || column < 0 || column > 4 ? -1 : 5 * row + column;
    }

    /** What an undo brings back, and the rest of a nave. */
    static final class World {
        int[] stony = new int[25];
        Map<Integer, Lying> lying = new TreeMap<>();
        int kind;
        int at;
        int week;

        World twin() {
            World w = new World();
            w.stony = stony.clone();
            for (Map.Entry<Integer, Lying> e : lying.entrySet()) {
                w.lying.put(e.getKey(), e.getValue().twin());
            }
            w.kind = kind;
            w.at = at;
            w.week = week;
            return w;
        }

        boolean step(int d) {
            int to = go(at, d);
            if (to < 0) {
                return false;
            }
            at = to;
            Lying l = lying.get(to);
            if (l != null) {
                l.depth = Math.min(9, l.depth + drag(kind, l.depth, stony[to]));
            }
            return true;
        }

        World week() {
            lying.values().removeIf(l -> l.depth == 0);
            for (Lying l : lying.values()) {
                l.age = Math.min(99, l.age + 1);
            }
            week++;
            return this;
        }

        World after(int m) {
            World w = twin();
            for (int i = 0; i < m; i++) {
                w.week();
            }
            return w;
        }

        int high(int c) {
            Lying l = lying.get(c);
            return l == null ? 0 : height(l.kind, l.depth, l.age);
        }

        int standing(int least) {
            int many = 0;
            for (int c = 0; c < 25; c++) {
                many += high(c) >= least ? 1 : 0;
            }
            return many;
        }
    }

    static final class Kept {
        World world;
        List<World> past = new ArrayList<>();
        List<int[]> seen = new ArrayList<>();
        List<int[]> marks = new ArrayList<>();

        Kept twin() {
            Kept k = new Kept();
            k.world = world.twin();
            k.past = new ArrayList<>(past);
            k.seen = new ArrayList<>(seen);
            k.marks = new ArrayList<>(marks);
            return k;
        }
    }

    static final class Model {
        Kept k = new Kept();
        Kept[] images = new Kept[2];
        StringBuilder text = new StringBuilder();
        BigInteger above = BigInteger.ZERO;
        BigInteger below = BigInteger.ONE;
        int[] status = new int[3];

        Model() {
            k.world = new World();
        }

        static boolean in(int n, int least, int most) {
            return n >= least && n <= most;
        }

        int refuse(int answer) {
            status[answer == -3 ? 1 : answer == -4 ? 2 : 0]++;
            return answer;
        }

        void keep() {
            k.past.add(k.world.twin());
            if (k.past.size() > 8) {
                k.past.remove(0);
            }
        }

        long call(int which, int[] a) {
            World w = k.world;
            switch (which) {
                case 0: {
                    if (!in(a[0], 0, 5) || !in(a[1], 0, 24)) return refuse(-2);
                    int lay = w.lying.size();
                    k = new Kept();
                    k.world = new World();
                    k.world.kind = a[0];
                    k.world.at = a[1];
                    return lay;
                }
                case 1: {
                    if (!in(a[0], 0, 5)) return refuse(-2);
                    int was = w.kind;
                    w.kind = a[0];
                    k.past.clear();
                    return was;
                }
                case 2: {
                    if (!in(a[0], 0, 24) || !in(a[1], 0, 4)) return refuse(-2);
                    int was = w.stony[a[0]];
                    w.stony[a[0]] = a[1];
                    k.past.clear();
                    return was;
                }
                case 3:
                    if (!in(a[0], 0, 127)) return refuse(-2);
                    if (text.length() == 150) return refuse(-4);
                    text.append((char) a[0]);
                    return text.length();
                case 4: {
                    int had = text.length();
                    text.setLength(0);
                    return had;
                }
                case 5: return read();
                case 6:
                    if (!in(a[0], 0, 24) || !in(a[1], 0, 5)) return refuse(-2);
                    if (w.lying.containsKey(a[0])) return refuse(-3);
                    keep();
                    w.lying.put(a[0], new Lying(a[1], 0, 0));
                    return w.lying.size();
                case 7:
                    if (!in(a[0], 0, 3)) return refuse(-2);
                    if (go(w.at, a[0]) < 0) return refuse(-3);
                    keep();
                    w.step(a[0]);
                    return w.at;
                case 8: {
                    if (!in(a[0], 0, 24)) return refuse(-2);
                    if (!w.lying.containsKey(a[0])) return refuse(-3);
                    keep();
                    int stood = w.high(a[0]);
                    w.lying.remove(a[0]);
                    return stood;
                }
                case 9:
                    if (!in(a[0], 1, 60)) return refuse(-2);
                    if (w.week < 9999) keep();
                    for (int i = 0; i < a[0] && w.week < 9999; i++) w.week();
                    return w.standing(1);
                case 10:
                    if (k.past.isEmpty()) return refuse(-3);
                    k.world = k.past.remove(k.past.size() - 1).twin();
                    return k.world.week;
                case 11: return of(a[0], a[1]);
                default: return look(which, a);
            }
        }

        long look(int which, int[] a) {
            World w = k.world;
            switch (which) {
                case 12:
                    return in(a[0], 0, 24) && in(a[1], 0, 60) ? w.after(a[1]).high(a[0]) : refuse(-2);
                case 13:
                    if (!in(a[0], 0, 24) || !in(a[1], 1, 20)) return refuse(-2);
                    for (int m = 0; m <= 60; m++) if (w.after(m).high(a[0]) >= a[1]) return m;
                    return -1;
                case 14: return in(a[0], 0, 60) ? w.after(a[0]).standing(1) : refuse(-2);
                case 15: return way(a[0], a[1]);
                case 16: return three(a[0], a[1]);
                case 17:
                    if (!in(a[0], 0, 24) || !in(a[1], 0, 9) || !in(a[2], 0, 99) || !in(a[3], 0, 20)) return refuse(-2);
                    if (k.seen.size() == 5) return refuse(-4);
                    k.seen.add(a.clone());
                    return k.seen.size();
                case 18: return in(a[0], 0, 24) ? bits(said(a[0])) : refuse(-2);
                case 19: return in(a[0], 0, 24) ? parting(said(a[0]), 9, 20, 100, true) : refuse(-2);
                case 20:
                    if (!in(a[0], 0, 4) || !in(a[1], 0, 9) || !in(a[2], 0, 9)) return refuse(-2);
                    if (k.marks.size() == 6) return refuse(-4);
                    k.marks.add(Arrays.copyOf(a, 3));
                    return k.marks.size();
                case 21: {
                    if (!in(a[0], 0, 1)) return refuse(-2);
                    List<int[]> notes = a[0] == 0 ? k.seen : k.marks;
                    int were = notes.size();
                    notes.clear();
                    return were;
                }
                case 22: return bits(marked());
                case 23: return parting(marked(), 4, 9, 10, false);
                case 24: return deep(a[0], a[1]);
                case 25: return sparrow(a[0], a[1]);
                case 26: return frost(a[0], a[1]);
                case 27: return years(a[0], a[1]);
                default: return rest(which, a);
            }
        }

        long rest(int which, int[] a) {
            switch (which) {
                case 28: return a[0] == 0 ? above.longValue() : a[0] == 1 ? below.longValue() : refuse(-2);
                case 29:
                    if (!in(a[0], 0, 1)) return refuse(-2);
                    images[a[0]] = k.twin();
                    return 1;
                case 30:
                    if (!in(a[0], 0, 1)) return refuse(-2);
                    if (images[a[0]] == null) return refuse(-3);
                    k = images[a[0]].twin();
                    return 1;
                case 31:
                    if (in(a[0], 0, 2)) return status[a[0]];
                    refuse(-2);
                    return -1;
                case 32: return in(a[0], 0, 9) ? count(a[0]) : refuse(-2);
                default: return digest();
            }
        }

        long of(int c, int what) {
            if (!in(c, 0, 24) || !in(what, 0, 5)) return refuse(-2);
            Lying l = k.world.lying.get(c);
            switch (what) {
                case 0: return k.world.stony[c];
                case 1: return l == null ? -1 : l.kind;
                case 2: return l == null ? -1 : l.depth;
                case 3: return l == null ? -1 : l.age;
                case 4: return k.world.high(c);
                default: return l == null ? -1 : drag(k.world.kind, l.depth, k.world.stony[c]);
            }
        }

        /** Breadth first, steps rising: the first path to come to an end is the least of the shortest. */
        long way(int cells, int n) {
            if (!in(cells, 0, (1 << 25) - 1) || Integer.bitCount(cells) > 5 || n < -1) {
                refuse(-2);
                return -10;
            }
            ArrayDeque<int[]> open = new ArrayDeque<>();
            ArrayDeque<String> paths = new ArrayDeque<>();
            Set<Long> known = new HashSet<>();
            int at = k.world.at;
            open.add(new int[] {at, cells & ~(1 << at)});
            paths.add("");
            while (true) {
                int[] s = open.remove();
                String path = paths.remove();
                if (s[1] == 0) {
                    return n == -1 ? path.length() : n < path.length() ? path.charAt(n) - '0' : -5;
                }
                for (int d = 0; d < 4; d++) {
                    int to = go(s[0], d);
                    int left = to < 0 ? 0 : s[1] & ~(1 << to);
                    if (to >= 0 && known.add(((long) left << 5) + to)) {
                        open.add(new int[] {to, left});
                        paths.add(path + d);
                    }
                }
            }
        }

        long three(int m, int what) {
            if (!in(m, 0, 60) || !in(what, 0, 1)) return refuse(-2);
            int most = -1;
            int best = -1;
            for (int t = 0; t < 334; t++) {
                World w = k.world.twin();
                int a = t / 100, b = t / 10 % 10, c = t % 10;
                if (a > 3 || b > 3 || c > 3 || !w.step(a) || !w.step(b) || !w.step(c)) continue;
                int greens = w.after(m).standing(1);
                if (greens > most) {
                    most = greens;
                    best = t;
                }
            }
            return what == 0 ? most : best;
        }

        static long bits(List<Integer> kinds) {
            long b = 0;
            for (int kind : kinds) b += 1L << kind;
            return b;
        }

        List<Integer> said(int c) {
            List<Integer> fit = new ArrayList<>();
            for (int kind = 0; kind < 6; kind++) {
                int now = kind;
                if (k.seen.stream().allMatch(s -> s[0] != c || height(now, s[1], s[2]) == s[3])) fit.add(kind);
            }
            return fit;
        }

        List<Integer> marked() {
            List<Integer> fit = new ArrayList<>();
            for (int kind = 0; kind < 6; kind++) {
                int now = kind;
                if (k.marks.stream().allMatch(s -> drag(now, s[1], s[0]) == s[2])) fit.add(kind);
            }
            return fit;
        }

        static long parting(List<Integer> kinds, int first, int second, int scale, boolean ofSayings) {
            if (kinds.isEmpty()) return -1;
            long best = -1;
            int fewest = 99;
            for (int i = 0; i <= first; i++) {
                for (int j = 0; j <= second; j++) {
                    Map<Integer, Integer> groups = new HashMap<>();
                    for (int kind : kinds) {
                        groups.merge(ofSayings ? height(kind, i, j) : drag(kind, j, i), 1, Integer::sum);
                    }
                    int most = Collections.max(groups.values());
                    if (most < fewest) {
                        fewest = most;
                        best = (long) scale * i + j;
                    }
                }
            }
            return best;
        }

        long deep(int c, int d) {
            if (!in(c, 0, 24) || !in(d, 0, 9)) return refuse(-2);
            List<Integer> lay = new ArrayList<>();
            for (int i = 0; i < 10; i++) {
                World w = new World();
                w.kind = k.world.kind;
                w.stony[c] = k.world.stony[c];
                w.at = c < 5 ? c + 5 : c - 5;
                w.lying.put(c, new Lying(0, i, 0));
                w.step(c < 5 ? 0 : 2);
                if (w.lying.get(c).depth == d) lay.add(i);
            }
            return bits(lay);
        }

        long sparrow(int r, int n) {
            if (!in(r, 0, 4) || n < -1) {
                refuse(-2);
                return -10;
            }
            IntBinaryOperator bird = (i, j) -> {
                Lying l = k.world.lying.get(5 * r + j);
                return l != null && l.depth == 0 && i != j ? 5 : -1;
            };
            IntBinaryOperator man = (i, j) ->
                (k.world.lying.containsKey(5 * r + i) ? 4 : 0) - (bird.applyAsInt(i, j) == 5 ? 2 : 0);
            List<Integer> pairs = new ArrayList<>();
            for (int i = 0; i < 5; i++) {
                for (int j = 0; j < 5; j++) {
                    boolean rests = true;
                    for (int o = 0; o < 5; o++) {
                        rests &= man.applyAsInt(o, j) <= man.applyAsInt(i, j);
                        rests &= bird.applyAsInt(i, o) <= bird.applyAsInt(i, j);
                    }
                    if (rests) pairs.add(10 * i + j);
                }
            }
            return n == -1 ? pairs.size() : n < pairs.size() ? pairs.get(n) : -5;
        }

        /** All hundred cases of two throws of a ten-sided die. */
        long frost(int c, int odds) {
            if (!in(c, 0, 24) || !in(odds, 0, 10)) return refuse(-2);
            int good = 0;
            Lying l = k.world.lying.get(c);
            for (int t = 0; t < 100 && l != null; t++) {
                int depth = l.depth;
                if (t / 10 >= odds) depth += drag(k.world.kind, Math.min(depth, 9), k.world.stony[c]);
                if (t % 10 >= odds) depth += drag(k.world.kind, Math.min(depth, 9), k.world.stony[c]);
                if (depth >= 1) good++;
            }
            BigInteger top = BigInteger.valueOf(good);
            BigInteger common = top.gcd(BigInteger.valueOf(100));
            above = top.divide(common);
            below = BigInteger.valueOf(100).divide(common);
            return 1;
        }

        long years(int seed, int n) {
            if (!in(seed, 0, 999999) || !in(n, 0, 60)) return refuse(-2);
            World w = k.world.twin();
            BigInteger x = BigInteger.valueOf(seed);
            for (int i = 0; i < n; i++) {
                x = x.multiply(BigInteger.valueOf(1103515245)).add(BigInteger.valueOf(12345));
                x = x.mod(BigInteger.valueOf(2147483648L));
                long v = x.longValue();
                w.lying.putIfAbsent((int) (v / 1048576 % 25), new Lying((int) (v / 65536 % 6), 0, 0));
                w.step((int) (v / 16384 % 4));
                w.week();
            }
            return w.standing(1);
        }

        static final Pattern TOKEN = Pattern.compile("[a-z]+|[0-9]+|[^ ]", Pattern.DOTALL);

        long read() {
            List<String> tokens = new ArrayList<>();
            List<Integer> places = new ArrayList<>();
            Matcher m = TOKEN.matcher(text);
            while (m.find()) {
                tokens.add(m.group());
                places.add(m.start());
            }
            World w = new World();
            int items = 0;
            int t = 0;
            List<String> item = new ArrayList<>();
            for (; t < tokens.size(); t++) {
                item.add(tokens.get(t));
                if (!canStand(w, item, items)) return -10 - places.get(t);
                if (item.get(item.size() - 1).equals(";")) {
                    items++;
                    item.clear();
                }
            }
            if (items == 0 || !item.isEmpty()) return -10 - text.length();
            k = new Kept();
            k.world = w;
            return items;
        }

        static int number(String token) {
            return token.matches("[0-9]{1,2}") ? Integer.parseInt(token) : -1;
        }

        /** Whether the last token of an item can stand there; then it is done. */
        static boolean canStand(World w, List<String> item, int items) {
            int n = item.size() - 1;
            String last = item.get(n);
            String word = item.get(0);
            if (n == 0) {
                return items == 0 ? word.equals("nave") : Arrays.asList("stony", "say", "drag", "weeks").contains(word);
            }
            int v = number(last);
            int before = number(item.get(n - 1));
            int numbers = word.equals("weeks") ? 1 : word.equals("drag") ? 9 : 2;
            if (last.equals(";")) {
                return word.equals("drag") ? n >= 2 : n == numbers + 1;
            }
            if (v < 0 || n > numbers) return false;
            switch (word) {
                case "nave":
                    if (n == 1) w.kind = v;
                    else w.at = v;
                    return v <= (n == 1 ? 5 : 24);
                case "stony":
                    if (n == 2 && v <= 4) w.stony[before] = v;
                    return v <= (n == 1 ? 24 : 4);
                case "say":
                    if (n == 2) w.lying.put(before, new Lying(v, 0, 0));
                    return n == 1 ? v <= 24 && !w.lying.containsKey(v) : v <= 5;
                case "drag":
                    return v <= 3 && w.step(v);
                default:
                    for (int i = 0; i < v; i++) w.week();
                    return v >= 1;
            }
        }

        long count(int what) {
            World w = k.world;
            long[] all = {w.lying.size(), w.standing(1), w.standing(8), w.week, w.at, w.kind, k.seen.size(),
                k.marks.size(), k.past.size(), text.length()};
            return all[what];
        }

        long digest() {
            long h = 1741;
            for (int i = 0; i < 10; i++) h = 31 * h + count(i);
            for (int i = 0; i < 100; i++) h = 31 * h + of(i / 4, i % 4);
            for (int[] s : k.seen) for (int v : s) h = 31 * h + v;
            for (int[] s : k.marks) for (int v : s) h = 31 * h + v;
            return 31 * (31 * h + above.longValue()) + below.longValue();
        }
    }

    static final String[] NAMES = {"nave", "harrow", "stony", "type", "clear", "read", "says", "drags", "reaps",
        "weeks", "undo", "of", "high", "when", "green", "way", "three", "seen", "said", "tell", "mark", "forget",
        "kinds", "ask", "deep", "sparrow", "frost", "years", "part", "image", "from", "status", "count", "digest"};

    static long call(HarrowSaid x, int which, int[] a) {
        switch (which) {
            case 0: return x.nave(a[0], a[1]);
            case 1: return x.harrow(a[0]);
            case 2: return x.stony(a[0], a[1]);
            case 3: return x.type(a[0]);
            case 4: return x.clear();
            case 5: return x.read();
            case 6: return x.says(a[0], a[1]);
            case 7: return x.drags(a[0]);
            case 8: return x.reaps(a[0]);
            case 9: return x.weeks(a[0]);
            case 10: return x.undo();
            case 11: return x.of(a[0], a[1]);
            case 12: return x.high(a[0], a[1]);
            case 13: return x.when(a[0], a[1]);
            case 14: return x.green(a[0]);
            case 15: return x.way(a[0], a[1]);
            case 16: return x.three(a[0], a[1]);
            case 17: return x.seen(a[0], a[1], a[2], a[3]);
            case 18: return x.said(a[0]);
            case 19: return x.tell(a[0]);
            case 20: return x.mark(a[0], a[1], a[2]);
            case 21: return x.forget(a[0]);
            case 22: return x.kinds();
            case 23: return x.ask();
            case 24: return x.deep(a[0], a[1]);
            case 25: return x.sparrow(a[0], a[1]);
            case 26: return x.frost(a[0], a[1]);
            case 27: return x.years(a[0], a[1]);
            case 28: return x.part(a[0]);
            case 29: return x.image(a[0]);
            case 30: return x.from(a[0]);
            case 31: return x.status(a[0]);
            case 32: return x.count(a[0]);
            default: return x.digest();
        }
    }

    /** Upper ends of what may be told, for each argument; each may go one too far. */
    static final int[][] MOST = {{5, 24}, {5}, {24, 4}, {127}, {}, {}, {24, 5}, {3}, {24}, {60}, {}, {24, 5},
        {24, 60}, {24, 20}, {60}, {0, 0}, {60, 1}, {2, 9, 99, 20}, {2}, {2}, {4, 9, 9}, {1}, {}, {}, {24, 9}, {4, 25},
        {24, 10}, {999999, 60}, {1}, {1}, {1}, {2}, {9}, {}};
    static final int[] OFTEN = {1, 2, 3, 1, 1, 2, 40, 60, 6, 25, 12, 10, 8, 8, 4, 12, 6, 8, 6, 6, 10, 3, 6, 6, 8, 10,
        8, 4, 6, 3, 3, 4, 8, 4};
    static final int[] ODD = {-1, -2, Integer.MIN_VALUE, Integer.MAX_VALUE, 100000000};

    static int[] arguments(Random by, int which) {
        int[] a = new int[4];
        for (int i = 0; i < MOST[which].length; i++) {
            int most = MOST[which][i];
            a[i] = by.nextInt(40) == 0 ? ODD[by.nextInt(ODD.length)] : by.nextInt(30) == 0 ? most + 1 : by.nextInt(most + 1);
        }
        if (which == 15 && by.nextInt(20) > 0) {
            a[0] = 0;
            for (int i = by.nextInt(7); i > 0; i--) a[0] |= 1 << by.nextInt(25);
            a[1] = by.nextInt(17) - 1;
        }
        if (which == 9 && by.nextBoolean()) a[0] = 1 + by.nextInt(6);
        if (which == 25 && by.nextBoolean()) a[1] = -1 + by.nextInt(6);
        if (which == 17 && by.nextInt(4) > 0) a[3] = height(by.nextInt(6), a[1], a[2] %= 12);
        if (which == 20 && by.nextInt(4) > 0) a[2] = drag(by.nextInt(6), a[1], a[0]);
        return a;
    }

    static boolean same(int run, int n, HarrowSaid x, Model m, int which, int... a) {
        long got = call(x, which, a);
        long want = m.call(which, a);
        if (got != want) {
            wrong++;
            System.out.println("run " + run + " call " + n + ": " + NAMES[which] + Arrays.toString(a) + " answered " + got
                + ", the model " + want);
        }
        return got == want;
    }

    static void runOfCalls(int run, int seldom) {
        Random by = new Random(run);
        HarrowSaid x = new HarrowSaid();
        Model m = new Model();
        int sum = 0;
        for (int w : OFTEN) sum += w;
        for (int n = 0; n < 512; n++) {
            int at = by.nextInt(sum);
            int which = 0;
            for (; at >= OFTEN[which]; which++) at -= OFTEN[which];
            // What sweeps all away comes seldom, or nothing would ever grow.
            if ((which < 3 || which == 5) && by.nextInt(seldom) > 0) which = 7;
            if (!same(run, n, x, m, which, arguments(by, which))) return;
            if (n % 8 == 0 && !same(run, n, x, m, 33, 0, 0, 0, 0)) return;
        }
    }

    static final String[] PIECES = {"nave", "stony", "say", "drag", "weeks", ";", ";", "0", "1", "2", "3", "4", "5",
        "07", "24", "25", "99", "100", "-", "N", "x", " ", "\t", "sayy", "dra"};

    static String item(Random by) {
        int c = by.nextInt(25);
        switch (by.nextInt(5)) {
            case 0: return "stony " + c + " " + by.nextInt(5) + ";";
            case 1: return "weeks " + (1 + by.nextInt(9)) + ";";
            case 2: {
                StringBuilder s = new StringBuilder("drag");
                for (int i = by.nextInt(4) > 0 ? 2 : 10; i >= 0; i--) s.append(' ').append(by.nextInt(4));
                return s + ";";
            }
            default: return "say " + c + " " + by.nextInt(6) + ";";
        }
    }

    static String text(Random by) {
        StringBuilder s = new StringBuilder("nave " + by.nextInt(6) + " " + by.nextInt(25) + ";");
        for (int i = by.nextInt(9); i > 0; i--) s.append(by.nextInt(3) == 0 ? " " : "").append(item(by));
        for (int i = by.nextInt(3); i > 0; i--) {
            int at = by.nextInt(s.length() + 1);
            switch (by.nextInt(3)) {
                case 0: s.insert(at, PIECES[by.nextInt(PIECES.length)]); break;
                case 1: s.delete(at, Math.min(s.length(), at + 1 + by.nextInt(3))); break;
                default: s.setLength(at);
            }
        }
        return s.substring(0, Math.min(150, s.length()));
    }

    static int runOfTexts(int run) {
        Random by = new Random(run);
        HarrowSaid x = new HarrowSaid();
        Model m = new Model();
        int good = 0;
        for (int n = 0; n < 3; n++) {
            String text = text(by);
            if (!same(run, n, x, m, 4, 0, 0, 0, 0)) return good;
            for (int i = 0; i < text.length(); i++) {
                if (!same(run, n, x, m, 3, text.charAt(i), 0, 0, 0)) return good;
            }
            if (!same(run, n, x, m, 5, 0, 0, 0, 0) || !same(run, n, x, m, 33, 0, 0, 0, 0)) {
                System.out.println("text: " + text);
                return good;
            }
            good += x.count(0) > 0 ? 1 : 0;
        }
        return good;
    }

    public static void main(String[] args) {
        for (int run = 0; run < 300; run++) {
            runOfCalls(run, run % 2 == 0 ? 40 : 4);
        }
        int good = 0;
        for (int run = 0; run < 3000; run++) {
            good += runOfTexts(run);
        }
        System.out.println(good + " looks at naves told by texts");
        System.out.println(wrong == 0 ? "all answers are the model's" : wrong + " runs differ from the model");
        if (wrong != 0) {
            System.exit(1);
        }
    }
}
