/** The bounds in "Terms": CELLS, STONY, DEPTH, AGE, WEEKS, the KINDS, STEPS, what is GREEN and IN EAR. */
final class BoundTerms {
    private static final int SERMON = 0;
    private static final int GRACE = 1;
    private static final int HOT = 2;
    private static final int LAUD = 3;
    private static final int CLOD = 4;
    private static final int VERSE = 5;
    private static final int PLAIN = 0;
    private static final int GREYS = 1;
    private static final int CHAINS = 2;
    private static final int CURATES = 3;
    private static final int LIGHT = 4;
    private static final int OLD = 5;

    private final Bounds b;

    private BoundTerms(Bounds b) {
        this.b = b;
    }

    static void test(Bounds b) {
        BoundTerms t = new BoundTerms(b);
        t.atFirst();
        t.cells();
        t.depth();
        t.age();
        t.weekNumbers();
        t.sermonAndGrace();
        t.hotAndLaud();
        t.clodAndVerse();
        t.plainAndGreys();
        t.chainsAndCurates();
        t.lightAndOld();
        t.saying();
        t.stepping();
        t.sparrows();
        t.reaping();
        t.green();
        t.inEar();
    }

    private void atFirst() {
        b.sentence(1, "As told; nothing lies.");
        HarrowSaid x = new HarrowSaid();
        for (int what = 0; what < 10; what++) {
            b.due("count(" + what + ")", x.count(what), 0);
        }
        b.due("status(0)", x.status(0) + x.status(1) + x.status(2), 0);
        b.sentence(1, "In a CELL lies nothing at first");
        for (int c = 0; c < 25; c++) {
            b.due("of(" + c + ", 1)", x.of(c, 1), HarrowSaid.NONE);
        }
        b.sentence(1, "STONY by 0 .. 4 (0 at first)");
        for (int c = 0; c < 25; c++) {
            b.due("stony(" + c + ", 4)", x.stony(c, 4), 0);
            b.due("stony(" + c + ", 0)", x.stony(c, 0), 4);
        }
        b.sentence(1, "THE HARROW: a KIND (0 at first), in a CELL (0 at first).");
        b.due("harrow(5)", x.harrow(5), PLAIN);
        b.due("count(4)", x.count(4), 0);
        b.sentence(1, "THE FRACTION is 0 by 1 at first");
        b.due("part(0)", x.part(0), 0);
        b.due("part(1)", x.part(1), 1);
    }

    /** From each cell, by each step: none leads around an edge into another row or to the other end. */
    private void cells() {
        b.sentence(9, "0 up (a ROW less), 1 on (a COLUMN more), 2 down, 3 back: it goes to the CELL beside");
        HarrowSaid x = new HarrowSaid();
        int out = 0;
        for (int row = 0; row < 5; row++) {
            for (int column = 0; column < 5; column++) {
                int c = 5 * row + column;
                int[] to = {row > 0 ? c - 5 : -3, column < 4 ? c + 1 : -3, row < 4 ? c + 5 : -3, column > 0 ? c - 1 : -3};
                for (int step = 0; step < 4; step++) {
                    x.nave(PLAIN, c);
                    b.due("drags(" + step + ") in cell " + c, x.drags(step), to[step]);
                    out += to[step] < 0 ? 1 : 0;
                    b.due("count(4) behind it", x.count(4), to[step] < 0 ? c : to[step]);
                }
            }
        }
        b.sentence(9, "NO: it leads out.");
        b.due("status(1)", x.status(1), out);
        b.due("steps that lead out", out, 20);
    }

    private void depth() {
        b.sentence(9, "DEPTH (0 .. 9)");
        HarrowSaid x = new HarrowSaid();
        x.nave(GREYS, 0);
        x.stony(1, 4);
        x.says(1, SERMON);
        for (int depth = 0; depth <= 9; depth++) {
            b.due("of(1, 2)", x.of(1, 2), depth);
            x.drags(1);
            x.drags(3);
        }
        b.due("of(1, 2) behind a tenth step", x.of(1, 2), 9);
        b.sentence(9, "what lies there is by so much deeper (9 at most)");
        x = Bounds.laid(SERMON, 8, 0);
        x.drags(1);
        b.due("of(1, 2), 4 deeper than 8", x.of(1, 2), 9);
        x = Bounds.laid(SERMON, 5, 0);
        x.drags(1);
        b.due("of(1, 2), 4 deeper than 5", x.of(1, 2), 9);
        x = Bounds.laid(SERMON, 4, 0);
        x.drags(1);
        b.due("of(1, 2), 4 deeper than 4", x.of(1, 2), 8);
        x = Bounds.laid(VERSE, 9, 99);
        x.harrow(CURATES);
        x.drags(1);
        b.due("of(1, 2), 8 deeper than 9", x.of(1, 2), 9);
        b.due("of(1, 1): the KIND stays", x.of(1, 1), VERSE);
        b.due("of(1, 3): the AGE stays", x.of(1, 3), 99);
    }

    private void age() {
        b.sentence(11, "AGE (0 .. 99 weeks)");
        HarrowSaid x = Bounds.laid(SERMON, 1, 98);
        b.due("of(1, 3)", x.of(1, 3), 98);
        x.weeks(1);
        b.due("of(1, 3)", x.of(1, 3), 99);
        b.sentence(11, "all else that lies is 1 WEEK older (99 at most); the WEEK is one more");
        x.weeks(1);
        b.due("of(1, 3) behind a hundredth week", x.of(1, 3), 99);
        x.weeks(60);
        b.due("of(1, 3) behind 60 more", x.of(1, 3), 99);
        b.due("count(3)", x.count(3), 160);
        b.due("of(1, 1): the KIND stays", x.of(1, 1), SERMON);
        b.due("of(1, 2): the DEPTH stays", x.of(1, 2), 1);
        x = Bounds.laid(VERSE, 9, 60);
        x.weeks(60);
        b.due("of(1, 3), past 99 within one call", x.of(1, 3), 99);
        b.due("of(1, 2)", x.of(1, 2), 9);
        b.due("of(1, 1)", x.of(1, 1), VERSE);
    }

    private void weekNumbers() {
        b.sentence(11, "WEEKS have numbers, 0 at first (9999 at most)");
        HarrowSaid x = new HarrowSaid();
        Bounds.pass(x, 9998);
        b.due("count(3)", x.count(3), 9998);
        x.weeks(1);
        b.due("count(3)", x.count(3), 9999);
        x.weeks(1);
        b.due("count(3) behind one more", x.count(3), 9999);
        x.weeks(60);
        b.due("count(3) behind 60 more", x.count(3), 9999);
        b.due("undo()", x.undo(), 9998);
        x.weeks(60);
        b.due("count(3), past 9999 within one call", x.count(3), 9999);
    }

    /** Of all heights that can be SEEN, this one alone is a KIND's, d deep and a WEEKS old. */
    private void stands(int kind, int d, int a, int height) {
        HarrowSaid x = new HarrowSaid();
        for (int high = 0; high <= 20; high++) {
            x.seen(7, d, a, high);
            b.due("said of KIND " + kind + ", " + d + " deep, " + a + " old, " + high + " high",
                x.said(7) >> kind & 1, high == height ? 1 : 0);
            x.forget(0);
        }
    }

    private void sermonAndGrace() {
        b.sentence(20, "0 SERMON: a, 9 at most, if d is 1 or more, else 0.");
        int[][] sermons = {{1, 0, 0}, {1, 1, 1}, {1, 8, 8}, {1, 9, 9}, {1, 10, 9}, {1, 99, 9}, {9, 99, 9}, {9, 1, 1},
            {0, 0, 0}, {0, 1, 0}, {0, 99, 0}};
        for (int[] at : sermons) {
            stands(SERMON, at[0], at[1], at[2]);
        }
        b.sentence(20, "1 GRACE (under SERMON): 2 more than SERMON, if that is 1 or more.");
        int[][] graces = {{1, 0, 0}, {1, 1, 3}, {1, 8, 10}, {1, 9, 11}, {1, 10, 11}, {9, 99, 11}, {0, 0, 0}, {0, 99, 0}};
        for (int[] at : graces) {
            stands(GRACE, at[0], at[1], at[2]);
        }
    }

    private void hotAndLaud() {
        b.sentence(20, "2 HOT (under SERMON): twice SERMON, if d is 4 or more, else as SERMON.");
        int[][] hots = {{3, 1, 1}, {4, 1, 2}, {3, 99, 9}, {4, 99, 18}, {9, 9, 18}, {9, 10, 18}, {4, 0, 0}, {1, 5, 5},
            {0, 5, 0}};
        for (int[] at : hots) {
            stands(HOT, at[0], at[1], at[2]);
        }
        b.sentence(20, "3 LAUD (under HOT): as HOT, but 0, if a is below 6.");
        int[][] lauds = {{3, 5, 0}, {3, 6, 6}, {4, 5, 0}, {4, 6, 12}, {9, 0, 0}, {9, 99, 18}, {1, 99, 9}, {0, 6, 0}};
        for (int[] at : lauds) {
            stands(LAUD, at[0], at[1], at[2]);
        }
    }

    private void clodAndVerse() {
        b.sentence(20, "4 CLOD (under SERMON): half (cut) of SERMON.");
        int[][] clods = {{1, 0, 0}, {1, 1, 0}, {1, 2, 1}, {1, 3, 1}, {4, 8, 4}, {9, 9, 4}, {9, 99, 4}, {0, 99, 0}};
        for (int[] at : clods) {
            stands(CLOD, at[0], at[1], at[2]);
        }
        b.sentence(20, "5 VERSE (under GRACE): GRACE less d, 1 at least, if GRACE is 1 or more.");
        int[][] verses = {{1, 1, 2}, {2, 1, 1}, {3, 1, 1}, {9, 1, 1}, {9, 7, 1}, {9, 8, 1}, {9, 9, 2}, {9, 99, 2},
            {1, 99, 10}, {1, 0, 0}, {9, 0, 0}, {0, 99, 0}};
        for (int[] at : verses) {
            stands(VERSE, at[0], at[1], at[2]);
        }
    }

    /** Of all that can be marked, this alone is by how much a KIND drags, whatever the depth, STONY by 0 to 4. */
    private void drags(int kind, int... by) {
        for (int s = 0; s < 5; s++) {
            for (int d : new int[] {0, 1, 8, 9}) {
                dragsBy(kind, d, s, by[s]);
            }
        }
    }

    private void dragsBy(int kind, int d, int s, int by) {
        HarrowSaid x = new HarrowSaid();
        for (int deeper = 0; deeper <= 9; deeper++) {
            x.mark(s, d, deeper);
            b.due("kinds() of KIND " + kind + ", " + d + " deep, STONY by " + s + ", " + deeper + " deeper",
                x.kinds() >> kind & 1, deeper == by ? 1 : 0);
            x.forget(1);
        }
        x = Bounds.laid(SERMON, d, 0);
        x.stony(1, s);
        x.harrow(kind);
        b.due("of(1, 5) of KIND " + kind + ", " + d + " deep, STONY by " + s, x.of(1, 5), by);
        x.drags(1);
        b.due("of(1, 2) behind a step", x.of(1, 2), Math.min(9, d + by));
    }

    private void plainAndGreys() {
        b.sentence(24, "0 PLAIN: 4 less s.");
        drags(PLAIN, 4, 3, 2, 1, 0);
        b.sentence(24, "1 GREYS (under PLAIN): 1 more than PLAIN.");
        drags(GREYS, 5, 4, 3, 2, 1);
    }

    private void chainsAndCurates() {
        b.sentence(24, "2 CHAINS (under PLAIN): half (cut up) of PLAIN.");
        drags(CHAINS, 2, 2, 1, 1, 0);
        b.sentence(24, "3 CURATE'S (under GREYS): GREYS, 3 more, if s is 1 or less.");
        drags(CURATES, 8, 7, 3, 2, 1);
    }

    private void lightAndOld() {
        b.sentence(24, "4 LIGHT (under CHAINS): CHAINS, but 1 at most.");
        drags(LIGHT, 1, 1, 1, 1, 0);
        b.sentence(24, "5 OLD (under PLAIN): PLAIN less d, 0 at least.");
        int[][] olds = {{0, 0, 4}, {3, 0, 1}, {4, 0, 0}, {5, 0, 0}, {9, 0, 0}, {0, 3, 1}, {1, 3, 0}, {2, 3, 0}, {0, 4, 0},
            {1, 4, 0}, {9, 4, 0}};
        for (int[] at : olds) {
            dragsBy(OLD, at[0], at[1], at[2]);
        }
    }

    private void saying() {
        b.sentence(8, "SAYING a KIND in a CELL in which nothing lies: DEPTH 0, AGE 0.");
        HarrowSaid x = Bounds.laid(VERSE, 9, 99);
        x.reaps(1);
        x.says(1, GRACE);
        b.due("of(1, 1), said anew", x.of(1, 1), GRACE);
        b.due("of(1, 2), said anew", x.of(1, 2), 0);
        b.due("of(1, 3), said anew", x.of(1, 3), 0);
    }

    private void stepping() {
        b.sentence(9, "it goes to the CELL beside; what lies there is by so much deeper");
        HarrowSaid x = b.told("nave 0 12;say 12 0;say 13 0;say 14 0;say 7 0;say 17 0;say 11 0;");
        b.due("drags(1)", x.drags(1), 13);
        int[] depths = {0, 4, 0, 0, 0, 0};
        int[] cells = {12, 13, 14, 7, 17, 11};
        for (int i = 0; i < cells.length; i++) {
            b.due("of(" + cells[i] + ", 2)", x.of(cells[i], 2), depths[i]);
        }
        b.due("drags(1), where the depth is 0 and the place the last of a row", x.drags(1), 14);
        b.due("of(14, 2)", x.of(14, 2), 4);
        x = new HarrowSaid();
        b.due("drags(1) where nothing lies", x.drags(1), 1);
        b.due("of(1, 1): nothing lies there still", x.of(1, 1), HarrowSaid.NONE);
    }

    private void sparrows() {
        b.sentence(11, "A WEEK: what lies 0 deep is had by sparrows");
        HarrowSaid x = Bounds.laid(SERMON, 1, 0);
        x.says(0, SERMON);
        x.says(24, VERSE);
        x.weeks(1);
        b.due("of(1, 3): 1 deep stays", x.of(1, 3), 1);
        b.due("of(0, 1): 0 deep is had", x.of(0, 1), HarrowSaid.NONE);
        b.due("of(24, 1): 0 deep is had", x.of(24, 1), HarrowSaid.NONE);
        b.due("count(0)", x.count(0), 1);
    }

    private void reaping() {
        b.sentence(10, "REAPING: what lies in a CELL is gone.");
        HarrowSaid x = Bounds.laid(HOT, 4, 9);
        x.says(24, CLOD);
        b.due("reaps(1)", x.reaps(1), 18);
        int[] nothing = {HarrowSaid.NONE, HarrowSaid.NONE, HarrowSaid.NONE, 0, HarrowSaid.NONE};
        for (int what = 1; what <= 5; what++) {
            b.due("of(1, " + what + ")", x.of(1, what), nothing[what - 1]);
        }
        b.due("count(0): the other lies there still", x.count(0), 1);
        b.due("reaps(24), 0 deep", x.reaps(24), 0);
        b.sentence(10, "REAPING: how high it stood.");
        b.due("reaps(1), 3 weeks old", Bounds.laid(HOT, 4, 3).reaps(1), 6);
        b.due("reaps(1) of LAUD, a week too young", Bounds.laid(LAUD, 4, 5).reaps(1), 0);
        b.due("reaps(1), 0 weeks old", Bounds.laid(GRACE, 9, 0).reaps(1), 0);
        b.sentence(10, "NO: nothing lies there.");
        b.due("reaps(24) again", x.reaps(24), HarrowSaid.NO);
        b.due("reaps(0)", x.reaps(0), HarrowSaid.NO);
        b.due("status(1)", x.status(1), 2);
        b.due("count(8): what was refused can not be undone", x.count(8), 3);
    }

    private void green() {
        b.sentence(34, "GREEN is what stands 1 high or more");
        HarrowSaid x = Bounds.laid(CLOD, 4, 1);
        b.due("count(1), 0 high", x.count(1), 0);
        b.due("weeks(1), 1 high", x.weeks(1), 1);
        b.due("count(1), 1 high", x.count(1), 1);
        x = Bounds.laid(SERMON, 1, 0);
        b.due("count(1), 0 weeks old", x.count(1), 0);
        x = Bounds.laid(HOT, 4, 99);
        b.due("count(1), 18 high", x.count(1), 1);
        x = Bounds.laid(LAUD, 4, 0);
        b.due("weeks(5) of LAUD", x.weeks(5), 0);
        b.due("weeks(1)", x.weeks(1), 1);
        x = Bounds.filled(SERMON);
        b.due("count(1), 25 of them 0 high", x.count(1), 0);
        b.due("weeks(1)", x.weeks(1), 25);
        b.due("count(1), 25 of them", x.count(1), 25);
    }

    private void inEar() {
        b.sentence(34, "IN EAR what stands 8 high or more.");
        HarrowSaid x = Bounds.laid(SERMON, 4, 7);
        b.due("count(2), 7 high", x.count(2), 0);
        x.weeks(1);
        b.due("count(2), 8 high", x.count(2), 1);
        x = Bounds.laid(HOT, 9, 99);
        b.due("count(2), 18 high", x.count(2), 1);
        x = Bounds.filled(HOT);
        x.weeks(3);
        b.due("count(2), 25 of them 6 high", x.count(2), 0);
        x.weeks(1);
        b.due("count(2), 25 of them 8 high", x.count(2), 25);
    }
}
