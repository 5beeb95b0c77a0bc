/** The bounds of SEEN, SAID, TELL, MARKS, WHAT, ASK, DEEP, CURATE and SPARROW, FROST and YEARS. */
final class BoundNotes {
    private static final int NOT_SO_MANY = -5;
    private static final int BAD_TEN = -10;

    private final Bounds b;

    private BoundNotes(Bounds b) {
        this.b = b;
    }

    static void test(Bounds b) {
        BoundNotes t = new BoundNotes(b);
        t.seen();
        t.said();
        t.tell();
        t.tellNone();
        t.marks();
        t.what();
        t.ask();
        t.askNone();
        t.forget();
        t.deep();
        t.sparrow();
        t.sparrowGets();
        t.sparrowNotSoMany();
        t.frost();
        t.frostOfNothing();
        t.fraction();
        t.years();
        t.yearsStep();
        t.yearsOneWeek();
        t.yearsLongest();
    }

    private void seen() {
        b.sentence(19, "SEEN 0 .. 4, as they come");
        HarrowSaid x = new HarrowSaid();
        for (int n = 1; n <= 5; n++) {
            b.due("seen(24, 9, 99, 20)", x.seen(24, 9, 99, 20), n);
        }
        b.sentence(19, "SEEN: how many there are. BAD; FULL: 5.");
        b.due("seen, the sixth", x.seen(0, 0, 0, 0), HarrowSaid.FULL);
        b.due("seen, the sixth in the same CELL", x.seen(24, 9, 99, 20), HarrowSaid.FULL);
        b.due("seen(0, 0, 0, 21): BAD is first", x.seen(0, 0, 0, 21), HarrowSaid.BAD);
        b.due("count(6)", x.count(6), 5);
        b.due("status(2)", x.status(2), 2);
        b.due("status(0)", x.status(0), 1);
        b.due("said(0): what was refused counts not", x.said(0), 63);
        x.forget(0);
        b.due("seen behind forget(0)", x.seen(0, 0, 0, 0), 1);
    }

    private void said() {
        b.sentence(20, "SAID in a CELL: KINDS (bits) by which all SEEN of it are so.");
        HarrowSaid x = new HarrowSaid();
        b.due("said(0), none SEEN", x.said(0), 63);
        b.due("said(24), none SEEN", x.said(24), 63);
        x.seen(24, 9, 99, 18);
        b.due("said(24)", x.said(24), 12);
        b.due("said(23): SEEN in another CELL", x.said(23), 63);
        x.seen(23, 1, 1, 20);
        b.due("said(23): none is so", x.said(23), 0);
        b.due("said(24): the other's count not", x.said(24), 12);
        x.seen(0, 1, 1, 1);
        x.seen(0, 1, 9, 9);
        b.due("said(0)", x.said(0), 5);
        x.seen(0, 4, 9, 18);
        b.due("said(0): the fifth counts", x.said(0), 4);
    }

    private void tell() {
        b.sentence(21, "TELL: 100 d and a (d 0 .. 9, a 0 .. 20)");
        HarrowSaid x = new HarrowSaid();
        b.due("tell(0) of all KINDS", x.tell(0), 405);
        b.sentence(21, "by which the most of these KINDS that stand as high are fewest; of like ones the least");
        x.seen(0, 1, 1, 3);
        b.due("said(0)", x.said(0), 2);
        b.due("tell(0) of one KIND: the first look of all", x.tell(0), 0);
        x.seen(1, 4, 7, 14);
        b.due("tell(1) of HOT, LAUD", x.tell(1), 101);
        x.seen(2, 1, 1, 1);
        b.due("tell(2) of SERMON, HOT", x.tell(2), 401);
        x.seen(3, 1, 1, 0);
        b.due("said(3)", x.said(3), 24);
        b.due("tell(3) of LAUD, CLOD", x.tell(3), 102);
        x.seen(4, 2, 1, 1);
        b.due("said(4)", x.said(4), 37);
        b.due("tell(4) of SERMON, HOT, VERSE", x.tell(4), 402);
        tellBy(13, 401, 1, 6, 6);
        tellBy(45, 402, 2, 6, 6);
        tellBy(33, 101, 9, 1, 1);
        tellBy(6, 101, 4, 2, 4);
        tellBy(48, 101, 9, 2, 1);
    }

    private void tellBy(int kinds, int look, int d, int a, int high) {
        HarrowSaid x = new HarrowSaid();
        x.seen(24, d, a, high);
        b.due("said(24), " + high + " high", x.said(24), kinds);
        b.due("tell(24) of KINDS " + kinds, x.tell(24), look);
    }

    private void tellNone() {
        b.sentence(21, "none: no KIND. MARKS");
        HarrowSaid x = new HarrowSaid();
        x.seen(24, 9, 99, 20);
        b.due("tell(24), no KIND", x.tell(24), HarrowSaid.NONE);
        b.due("tell(0): of another CELL", x.tell(0), 405);
        b.due("status: NONE is no refusal", x.status(0) + x.status(1) + x.status(2), 0);
        x.forget(0);
        b.due("tell(24) behind forget(0)", x.tell(24), 405);
    }

    private void marks() {
        b.sentence(22, "MARKS 0 .. 5, as they come");
        HarrowSaid x = new HarrowSaid();
        for (int n = 1; n <= 6; n++) {
            b.due("mark(4, 9, 0)", x.mark(4, 9, 0), n);
        }
        b.sentence(22, "A MARK: how many there are. BAD; FULL: 6.");
        b.due("mark, the seventh", x.mark(0, 0, 8), HarrowSaid.FULL);
        b.due("mark(5, 0, 0): BAD is first", x.mark(5, 0, 0), HarrowSaid.BAD);
        b.due("count(7)", x.count(7), 6);
        b.due("status(2)", x.status(2), 1);
        b.due("status(0)", x.status(0), 1);
        b.due("kinds(): what was refused counts not", x.kinds(), 53);
        x.forget(1);
        b.due("mark behind forget(1)", x.mark(0, 0, 0), 1);
    }

    private void what() {
        b.sentence(24, "WHAT: KINDS of HARROWS (bits) by which all MARKS are so.");
        HarrowSaid x = new HarrowSaid();
        b.due("kinds(), no MARKS", x.kinds(), 63);
        for (int n = 0; n < 5; n++) {
            x.mark(3, 0, 1);
        }
        b.due("kinds()", x.kinds(), 53);
        x.mark(0, 0, 2);
        b.due("kinds(): the sixth counts", x.kinds(), 4);
        x.forget(1);
        x.mark(0, 0, 9);
        b.due("kinds(): none is so", x.kinds(), 0);
        x.forget(1);
        x.mark(0, 9, 4);
        b.due("kinds(): by how much, though 9 is the deepest", x.kinds(), 1);
        x.harrow(5);
        b.due("kinds(): what THE HARROW is told to be counts not", x.kinds(), 1);
    }

    private void ask() {
        b.sentence(25, "ASK: 10 s and d (s 0 .. 4, d 0 .. 9)");
        HarrowSaid x = new HarrowSaid();
        b.due("ask() of all KINDS", x.ask(), 1);
        b.sentence(25, "by which the most of these KINDS that drag by as much are fewest; of like ones the least; none: no KIND.");
        x.mark(0, 0, 8);
        b.due("ask() of one KIND: the first look of all", x.ask(), 0);
        x.forget(1);
        x.mark(0, 0, 4);
        b.due("kinds()", x.kinds(), 33);
        b.due("ask() of PLAIN, OLD", x.ask(), 1);
        x.forget(1);
        x.mark(2, 9, 1);
        b.due("kinds()", x.kinds(), 20);
        b.due("ask() of CHAINS, LIGHT", x.ask(), 0);
        askBy(10, 0, 4, 0, 1);
        askBy(21, 0, 3, 9, 1);
        askBy(53, 1, 4, 0, 0);
        askBy(52, 0, 2, 1, 1);
        askBy(36, 0, 0, 2, 2);
        askBy(48, 0, 0, 3, 1);
        askBy(16, 0, 0, 9, 1);
    }

    private void askBy(int kinds, int look, int s, int d, int deeper) {
        HarrowSaid x = new HarrowSaid();
        x.mark(s, d, deeper);
        b.due("kinds(), " + deeper + " deeper", x.kinds(), kinds);
        b.due("ask() of KINDS " + kinds, x.ask(), look);
    }

    private void askNone() {
        b.sentence(25, "ASK. NONE.");
        HarrowSaid x = new HarrowSaid();
        x.mark(0, 0, 9);
        b.due("ask(), no KIND", x.ask(), HarrowSaid.NONE);
        b.due("status: NONE is no refusal", x.status(0) + x.status(1) + x.status(2), 0);
        x.forget(1);
        b.due("ask() behind forget(1)", x.ask(), 1);
    }

    private void forget() {
        b.sentence(23, "No SEEN ones (0), MARKS (1): how many there were.");
        HarrowSaid x = new HarrowSaid();
        b.due("forget(0) of none", x.forget(0), 0);
        b.due("forget(1) of none", x.forget(1), 0);
        for (int n = 0; n < 7; n++) {
            x.seen(0, 0, 0, 20);
            x.mark(0, 0, 0);
        }
        b.due("forget(2)", x.forget(2), HarrowSaid.BAD);
        b.due("forget(0) when full", x.forget(0), 5);
        b.due("count(7): MARKS stay", x.count(7), 6);
        b.due("forget(0) again", x.forget(0), 0);
        b.due("said(0)", x.said(0), 63);
        x.seen(0, 0, 0, 0);
        b.due("forget(1) when full", x.forget(1), 6);
        b.due("count(6): SEEN stay", x.count(6), 1);
        b.due("kinds()", x.kinds(), 63);
    }

    private void deep() {
        b.sentence(26, "DEPTHS (bits 0 to 9)");
        deeps(0, 0, 0, 0, 0, 0, 1, 2, 4, 8, 16, 992);
        deeps(0, 4, 1, 2, 4, 8, 16, 32, 64, 128, 256, 512);
        deeps(1, 4, 0, 1, 2, 4, 8, 16, 32, 64, 128, 768);
        deeps(3, 0, 0, 0, 0, 0, 0, 0, 0, 0, 1, 1022);
        deeps(3, 1, 0, 0, 0, 0, 0, 0, 0, 1, 2, 1020);
        deeps(5, 0, 0, 0, 0, 0, 31, 32, 64, 128, 256, 512);
        deeps(5, 3, 0, 3, 4, 8, 16, 32, 64, 128, 256, 512);
        b.sentence(26, "by THE HARROW's KIND, STONY as it is");
        HarrowSaid x = Bounds.laid(0, 9, 0);
        b.due("deep(1, 0), whatever lies there", x.deep(1, 0), 0);
        x.stony(24, 4);
        b.due("deep(24, 0)", x.deep(24, 0), 1);
        b.due("deep(0, 0)", x.deep(0, 0), 0);
    }

    private void deeps(int kind, int s, int... bits) {
        HarrowSaid x = new HarrowSaid();
        x.harrow(kind);
        x.stony(24, s);
        for (int d = 0; d <= 9; d++) {
            b.due("deep(24, " + d + ") of KIND " + kind + ", STONY by " + s, x.deep(24, d), bits[d]);
        }
    }

    private void pairs(HarrowSaid x, int row, int... pairs) {
        b.due("sparrow(" + row + ", -1)", x.sparrow(row, -1), pairs.length);
        for (int k = 0; k < pairs.length; k++) {
            b.due("sparrow(" + row + ", " + k + ")", x.sparrow(row, k), pairs[k]);
        }
        b.due("sparrow(" + row + ", " + pairs.length + ")", x.sparrow(row, pairs.length), NOT_SO_MANY);
    }

    private void sparrow() {
        b.sentence(27, "he drags in COLUMN i (0 .. 4), it comes to COLUMN j (0 .. 4) of a ROW r");
        int[] all = new int[25];
        for (int n = 0; n < 25; n++) {
            all[n] = 10 * (n / 5) + n % 5;
        }
        pairs(new HarrowSaid(), 0, all);
        pairs(new HarrowSaid(), 4, all);
        HarrowSaid x = b.told("nave 0 0;say 20 0;say 24 0;say 14 0;");
        pairs(x, 4);
        pairs(x, 2, 40, 41, 42, 43, 44);
        pairs(x, 0, all);
    }

    private void sparrowGets() {
        b.sentence(27, "to the sparrow 5, if something lies 0 deep in CELL j and i is not j, else -1");
        HarrowSaid x = b.told("nave 1 5;stony 0 4;say 0 0;drag 0;");
        b.due("of(0, 2)", x.of(0, 2), 1);
        pairs(x, 0, 0, 1, 2, 3, 4);
        x = b.told("nave 0 0;say 0 0;");
        pairs(x, 0, 0, 1, 2, 3, 4);
        b.sentence(27, "to him 4, if something lies in CELL i, else 0, and 2 less, if the sparrow gets 5");
        // 1 deep in COLUMN 0, 0 deep in COLUMN 1: 01 does not rest, for the sparrow's 5 would cost him 2.
        x = b.told("nave 1 5;stony 0 4;say 0 0;drag 0;say 1 0;");
        pairs(x, 0, 10, 11, 12, 13, 14);
        // Two that lie 0 deep: wherever he is, the sparrow comes to the other, and he would get more there.
        x = b.told("nave 1 5;stony 0 4;say 0 0;drag 0;say 3 0;say 4 0;");
        pairs(x, 0);
    }

    private void sparrowNotSoMany() {
        b.sentence(27, "pairs 10 i and j that rest (neither would get more elsewhere): how many; the k-th (rising)");
        HarrowSaid x = new HarrowSaid();
        b.due("sparrow(0, 24)", x.sparrow(0, 24), 44);
        b.sentence(27, "the k-th. -5: not so many. BAD: -10.");
        b.due("sparrow(0, 25)", x.sparrow(0, 25), NOT_SO_MANY);
        b.due("sparrow(0, MAX)", x.sparrow(0, Integer.MAX_VALUE), NOT_SO_MANY);
        x.says(0, 0);
        x.says(1, 0);
        b.due("sparrow(0, -1): none rests", x.sparrow(0, -1), 0);
        b.due("sparrow(0, 0)", x.sparrow(0, 0), NOT_SO_MANY);
        b.due("status: -5 is no refusal", x.status(0) + x.status(1) + x.status(2), 0);
        b.due("sparrow(5, 25): BAD is first", x.sparrow(5, 25), BAD_TEN);
        b.due("sparrow(0, -2)", x.sparrow(0, -2), BAD_TEN);
        b.due("status(0)", x.status(0), 2);
    }

    private void chance(HarrowSaid x, int cell, int odds, long above, long below) {
        b.due("frost(" + cell + ", " + odds + ")", x.frost(cell, odds), 1);
        b.due("part(0) behind it", x.part(0), above);
        b.due("part(1) behind it", x.part(1), below);
    }

    private void frost() {
        b.sentence(28, "FROST: by c of 10 (0 .. 10) a STEP drags nothing deeper");
        HarrowSaid x = new HarrowSaid();
        x.says(24, 0);
        chance(x, 24, 0, 1, 1);
        chance(x, 24, 1, 99, 100);
        chance(x, 24, 9, 19, 100);
        chance(x, 24, 10, 0, 1);
        b.sentence(28, "the chance that what lies in a CELL lies 1 deep or more behind two STEPS into it from now on");
        x = Bounds.laid(0, 1, 0);
        chance(x, 1, 10, 1, 1);
        chance(x, 1, 5, 1, 1);
        x = Bounds.laid(0, 0, 0);
        for (int kind = 0; kind < 6; kind++) {
            x.harrow(kind);
            x.stony(1, 3);
            chance(x, 1, 5, 3, 4);
            x.stony(1, 4);
            chance(x, 1, 0, kind == 1 || kind == 3 ? 1 : 0, 1);
        }
        b.due("of(1, 2): nothing is dragged", x.of(1, 2), 0);
        b.due("count(4)", x.count(4), 0);
    }

    private void frostOfNothing() {
        b.sentence(28, "each apart (nothing lies: 0): THE FRACTION");
        HarrowSaid x = new HarrowSaid();
        x.says(0, 0);
        chance(x, 0, 5, 3, 4);
        for (int odds = 0; odds <= 10; odds += 5) {
            chance(x, 0, 5, 3, 4);
            chance(x, 24, odds, 0, 1);
        }
    }

    private void fraction() {
        b.sentence(30, "lowest terms, below above 0");
        HarrowSaid x = new HarrowSaid();
        x.says(0, 0);
        int[][] parts = {{1, 1}, {99, 100}, {24, 25}, {91, 100}, {21, 25}, {3, 4}, {16, 25}, {51, 100}, {9, 25},
            {19, 100}, {0, 1}};
        for (int odds = 0; odds <= 10; odds++) {
            chance(x, 0, odds, parts[odds][0], parts[odds][1]);
        }
        b.sentence(28, "FROST is THE FRACTION: 1. BAD.");
        chance(x, 0, 3, 91, 100);
        b.due("frost(0, 11)", x.frost(0, 11), HarrowSaid.BAD);
        b.due("frost(25, 10)", x.frost(25, 10), HarrowSaid.BAD);
        b.due("part(0): refused, it stays", x.part(0), 91);
        b.due("part(1)", x.part(1), 100);
    }

    private void years() {
        b.sentence(29, "YEARS by a SEED (0 .. 999999), n (0 .. 60) WEEKS");
        HarrowSaid x = Bounds.filled(0);
        b.due("years(0, 0)", x.years(0, 0), 0);
        x.weeks(1);
        b.due("years(0, 0): what is GREEN now", x.years(0, 0), 25);
        b.due("years(999999, 0)", x.years(999999, 0), 25);
        b.due("years(999999, 60) of a full nave", x.years(999999, 60), 25);
        b.sentence(29, "X is SEED at first; ahead of each WEEK X becomes");
        x = new HarrowSaid();
        // X is 12345: SERMON, in cell 0, a step up.
        x.nave(0, 5);
        b.due("years(0, 1)", x.years(0, 1), 1);
        b.due("years(0, 0)", x.years(0, 0), 0);
    }

    private void yearsStep() {
        b.sentence(29, "is SAID in CELL X by 1048576 (cut), by 25 left over, if nothing lies there");
        HarrowSaid x = new HarrowSaid();
        x.nave(0, 5);
        x.says(0, 4);
        b.due("years(0, 1): CLOD lies there, and stands 0 high", x.years(0, 1), 0);
        x.reaps(0);
        b.due("years(0, 1): SERMON", x.years(0, 1), 1);
        b.sentence(29, "then THE HARROW does STEP X by 16384 (cut), by 4 left over, if it leads not out");
        x.nave(0, 0);
        b.due("years(0, 1): it leads out", x.years(0, 1), 0);
        x.nave(0, 5);
        x.stony(0, 4);
        b.due("years(0, 1): too stony", x.years(0, 1), 0);
        b.due("count(0): nothing is changed", x.count(0), 0);
        b.due("count(4)", x.count(4), 5);
    }

    /** One week by many seeds, THE HARROW being where its step drags what is said: only LAUD and CLOD are not green. */
    private void yearsOneWeek() {
        b.sentence(29, "KIND X by 65536 (cut), by 6 left over, is SAID in CELL X by 1048576 (cut), by 25 left over");
        int[] back = {5, -1, -5, 1};
        int met = 0;
        for (int seed = 0; seed < 1000000; seed += 101) {
            long v = (seed * 1103515245L + 12345) & 0x7fffffffL;
            int kind = (int) ((v >> 16) % 6);
            int cell = (int) ((v >> 20) % 25);
            int step = (int) (v >> 14 & 3);
            boolean edge = step == 0 && cell > 19 || step == 2 && cell < 5 || step == 1 && cell % 5 == 0
                || step == 3 && cell % 5 == 4;
            HarrowSaid x = new HarrowSaid();
            x.nave(0, edge ? 12 : cell + back[step]);
            b.due("years(" + seed + ", 1)", x.years(seed, 1), edge || kind == 3 || kind == 4 ? 0 : 1);
            met += edge ? 0 : 1;
        }
        b.due("seeds by which it is dragged", met > 7000 ? 1 : 0, 1);
    }

    /** X times 1103515245 is far beyond an int, and must not wrap around ahead of what is left over. */
    private void yearsLongest() {
        b.sentence(29, "X becomes X times 1103515245 and 12345, by 2147483648 what is left over");
        int[] seeds = {0, 1, 12345, 500000, 999998, 999999};
        int greens = 0;
        for (int seed : seeds) {
            HarrowSaid x = b.told("nave 3 12;say 12 1;say 13 2;say 8 3;drag 1 0;weeks 2;");
            for (int n : new int[] {1, 2, 30, 59, 60}) {
                greens += x.years(seed, n);
                b.due("years(" + seed + ", " + n + ")", x.years(seed, n), yearsByCalls(seed, n));
            }
        }
        b.due("something is green", greens > seeds.length * 5 ? 1 : 0, 1);
    }

    private int yearsByCalls(int seed, int n) {
        HarrowSaid x = b.told("nave 3 12;say 12 1;say 13 2;say 8 3;drag 1 0;weeks 2;");
        java.math.BigInteger v = java.math.BigInteger.valueOf(seed);
        for (int week = 0; week < n; week++) {
            v = v.multiply(java.math.BigInteger.valueOf(1103515245)).add(java.math.BigInteger.valueOf(12345));
            v = v.mod(java.math.BigInteger.valueOf(2147483648L));
            x.says((int) (v.longValue() / 1048576 % 25), (int) (v.longValue() / 65536 % 6));
            x.drags((int) (v.longValue() / 16384 % 4));
            x.weeks(1);
        }
        return x.count(1);
    }
}
