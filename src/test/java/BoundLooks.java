/** The bounds of HIGH, WHEN, ALL GREEN, WAY and THREE. */
final class BoundLooks {
    private static final int NOT_SO_MANY = -5;
    private static final int BAD_TEN = -10;

    private final Bounds b;

    private BoundLooks(Bounds b) {
        this.b = b;
    }

    static void test(Bounds b) {
        BoundLooks t = new BoundLooks(b);
        t.nothingIsChanged();
        t.beyondTheLastWeek();
        t.high();
        t.when();
        t.whenNone();
        t.green();
        t.wayOfNone();
        t.wayHowMany();
        t.wayNotSoMany();
        t.wayStepsRising();
        t.three();
        t.threeTies();
        t.threeOut();
    }

    private void nothingIsChanged() {
        b.sentence(14, "(Nothing is changed by these;");
        HarrowSaid x = Bounds.rich();
        x.high(3, 60);
        x.when(3, 20);
        x.green(60);
        x.way(0x1f, -1);
        x.way(0x1f, 3);
        x.three(60, 0);
        x.three(60, 1);
        x.said(2);
        x.tell(2);
        x.kinds();
        x.ask();
        x.deep(8, 9);
        x.sparrow(0, -1);
        x.sparrow(0, 24);
        x.years(999999, 60);
        b.due("status(0)", x.status(0), 0);
        b.same("a look", x, Bounds.rich());
    }

    private void beyondTheLastWeek() {
        b.sentence(14, "WEEKS go beyond 9999 in them.)");
        HarrowSaid x = new HarrowSaid();
        HarrowSaid y = new HarrowSaid();
        Bounds.pass(x, 9999);
        for (HarrowSaid each : new HarrowSaid[] {x, y}) {
            each.says(1, 2);
            each.says(2, 3);
            each.drags(1);
            each.says(10, 0);
        }
        b.due("count(3)", x.count(3), 9999);
        b.due("high(1, 60) in the last week", x.high(1, 60), 18);
        b.due("high(1, 1)", x.high(1, 1), 2);
        b.due("when(1, 18)", x.when(1, 18), 9);
        b.due("green(1)", x.green(1), 1);
        b.due("three(6, 0)", x.three(6, 0), 2);
        b.due("three(6, 1)", x.three(6, 1), 111);
        for (int n = 0; n <= 60; n += 12) {
            b.due("years(77, " + n + ") as in the first week", x.years(77, n), y.years(77, n));
        }
        b.due("years(77, 60) with something green", x.years(77, 60) > 0 ? 1 : 0, 1);
        b.due("count(3)", x.count(3), 9999);
        b.due("of(1, 3)", x.of(1, 3), 0);
        b.due("of(10, 2): not had by sparrows", x.of(10, 2), 0);
    }

    private void high() {
        b.sentence(14, "HIGH: how high what lies in a CELL stands behind m (0 .. 60) WEEKS");
        HarrowSaid x = Bounds.laid(2, 4, 0);
        int[] weeks = {0, 1, 8, 9, 10, 60};
        int[] heights = {0, 2, 16, 18, 18, 18};
        for (int i = 0; i < weeks.length; i++) {
            b.due("high(1, " + weeks[i] + ")", x.high(1, weeks[i]), heights[i]);
        }
        x = Bounds.laid(3, 4, 5);
        b.due("high(1, 0) of LAUD", x.high(1, 0), 0);
        b.due("high(1, 1)", x.high(1, 1), 12);
        x = Bounds.laid(0, 4, 99);
        b.due("high(1, 60), 99 weeks old", x.high(1, 60), 9);
        b.sentence(14, "nobody dragging (nothing lies, or it was had: 0)");
        b.due("high(0, 0) of nothing", x.high(0, 0), 0);
        b.due("high(24, 60) of nothing", x.high(24, 60), 0);
        x.says(24, 1);
        b.due("high(24, 0), 0 deep", x.high(24, 0), 0);
        b.due("high(24, 1): it was had", x.high(24, 1), 0);
        b.due("high(24, 60): it was had", x.high(24, 60), 0);
    }

    private void when() {
        b.sentence(15, "WHEN: in how many WEEKS (0 .. 60) what lies in a CELL is x (1 .. 20) high or more first");
        HarrowSaid x = Bounds.laid(0, 1, 0);
        for (int high = 1; high <= 9; high++) {
            b.due("when(1, " + high + ")", x.when(1, high), high);
        }
        x.weeks(1);
        b.due("when(1, 1): now", x.when(1, 1), 0);
        b.due("when(1, 2)", x.when(1, 2), 1);
        x = Bounds.laid(3, 4, 0);
        b.due("when(1, 1) of LAUD", x.when(1, 1), 6);
        b.due("when(1, 12)", x.when(1, 12), 6);
        b.due("when(1, 13)", x.when(1, 13), 7);
        b.due("when(1, 18)", x.when(1, 18), 9);
        x = Bounds.laid(2, 4, 99);
        b.due("when(1, 18), 99 weeks old", x.when(1, 18), 0);
    }

    private void whenNone() {
        b.sentence(15, "WHEN. NONE. BAD.");
        HarrowSaid x = Bounds.laid(0, 9, 0);
        b.due("when(1, 10)", x.when(1, 10), HarrowSaid.NONE);
        b.due("when(0, 1) of nothing", x.when(0, 1), HarrowSaid.NONE);
        x.says(24, 0);
        b.due("when(24, 1), 0 deep", x.when(24, 1), HarrowSaid.NONE);
        x = Bounds.laid(2, 9, 99);
        b.due("when(1, 19)", x.when(1, 19), HarrowSaid.NONE);
        b.due("when(1, 20)", x.when(1, 20), HarrowSaid.NONE);
        b.due("status(0): NONE is no refusal", x.status(0) + x.status(1) + x.status(2), 0);
    }

    private void green() {
        b.sentence(16, "ALL GREEN: how many CELLS are GREEN behind m WEEKS.");
        HarrowSaid x = new HarrowSaid();
        b.due("green(0) of none", x.green(0), 0);
        b.due("green(60) of none", x.green(60), 0);
        x = Bounds.filled(3);
        b.due("green(0)", x.green(0), 0);
        b.due("green(5)", x.green(5), 0);
        b.due("green(6) of all", x.green(6), 25);
        b.due("green(60) of all", x.green(60), 25);
        x.weeks(6);
        b.due("green(0) of all", x.green(0), 25);
    }

    private void wayOfNone() {
        b.sentence(17, "so that it was in each of them (where it is now counts)");
        for (int c : new int[] {0, 12, 24}) {
            HarrowSaid x = new HarrowSaid();
            x.nave(0, c);
            b.due("way(0, -1): none told", x.way(0, -1), 0);
            b.due("way(0, 0)", x.way(0, 0), NOT_SO_MANY);
            b.due("way(where it is, -1)", x.way(1 << c, -1), 0);
            b.due("way(where it is, 0)", x.way(1 << c, 0), NOT_SO_MANY);
            b.due("count(4)", x.count(4), c);
        }
        HarrowSaid x = new HarrowSaid();
        b.due("way(3, -1), one of two being where it is", x.way(3, -1), 1);
        b.due("way(3, 0)", x.way(3, 0), 1);
    }

    private void wayHowMany() {
        b.sentence(17, "WAY for told CELLS (bits; 5 at most)");
        HarrowSaid x = new HarrowSaid();
        b.due("way of 5", x.way(0x1f, -1), 4);
        b.due("way of 5 others", x.way(0x1f << 20, -1), 8);
        b.due("way of 6", x.way(0x3f, -1), BAD_TEN);
        b.due("way of 6, where it is not among them", x.way(0x3f << 19, -1), BAD_TEN);
        b.due("way(1 << 24, -1)", x.way(1 << 24, -1), 8);
        b.due("way(1 << 25, -1)", x.way(1 << 25, -1), BAD_TEN);
        int corners = 1 | 1 << 4 | 1 << 20 | 1 << 24;
        b.due("way of the corners and the middle", x.way(corners | 1 << 12, -1), 16);
        x.nave(0, 12);
        b.due("way of the corners from the middle", x.way(corners, -1), 16);
        b.due("status(0)", x.status(0), 3);
    }

    private void wayNotSoMany() {
        b.sentence(17, "how many (k = NONE), the k-th STEP. -5: not so many.");
        HarrowSaid x = new HarrowSaid();
        int[] steps = {1, 1, 1, 1, 2, 2, 2, 2};
        for (int k = 0; k < steps.length; k++) {
            b.due("way(1 << 24, " + k + ")", x.way(1 << 24, k), steps[k]);
        }
        b.due("way(1 << 24, 8)", x.way(1 << 24, 8), NOT_SO_MANY);
        b.due("way(1 << 24, MAX)", x.way(1 << 24, Integer.MAX_VALUE), NOT_SO_MANY);
        b.due("status: -5 is no refusal", x.status(0) + x.status(1) + x.status(2), 0);
        b.due("way(63, 99): BAD is first", x.way(63, 99), BAD_TEN);
        b.due("way(1 << 24, -2)", x.way(1 << 24, -2), BAD_TEN);
        b.due("way(0, -2)", x.way(0, -2), BAD_TEN);
        b.due("status(0)", x.status(0), 3);
    }

    private void wayStepsRising() {
        b.sentence(17, "the k-th STEP of the first such way (STEPS rising)");
        ways(12, 1 << 18, 1, 2);
        ways(12, 1 << 6, 0, 3);
        ways(12, 1 << 8, 0, 1);
        ways(12, 1 << 16, 2, 3);
        ways(24, 1, 0, 0, 0, 0, 3, 3, 3, 3);
        ways(4, 1 << 20, 2, 2, 2, 2, 3, 3, 3, 3);
        ways(20, 1 << 4, 0, 0, 0, 0, 1, 1, 1, 1);
        // Either end of the row may come first; the one up by rising steps does.
        ways(2, 1 | 1 << 4, 1, 1, 3, 3, 3, 3);
        ways(12, 1 << 7 | 1 << 17, 0, 2, 2);
    }

    private void ways(int from, int cells, int... steps) {
        HarrowSaid x = new HarrowSaid();
        x.nave(0, from);
        b.due("way(" + cells + ", -1) from " + from, x.way(cells, -1), steps.length);
        for (int k = 0; k < steps.length; k++) {
            b.due("way(" + cells + ", " + k + ") from " + from, x.way(cells, k), steps[k]);
        }
        b.due("way(" + cells + ", " + steps.length + ")", x.way(cells, steps.length), NOT_SO_MANY);
    }

    private void three() {
        b.sentence(18, "THREE for m (0 .. 60): three STEPS now by which most CELLS are GREEN behind m WEEKS");
        HarrowSaid x = b.told("nave 0 12;say 17 0;say 16 0;say 11 0;");
        b.due("three(0, 0): not green yet", x.three(0, 0), 0);
        b.due("three(1, 0)", x.three(1, 0), 3);
        b.due("three(1, 1)", x.three(1, 1), 230);
        b.due("three(60, 0)", x.three(60, 0), 3);
        b.due("three(60, 1)", x.three(60, 1), 230);
        b.due("green(60): nobody dragging", x.green(60), 0);
        x = Bounds.filled(0);
        x.weeks(1);
        b.due("three(0, 0) of all", x.three(0, 0), 25);
        b.due("three(60, 0) of all", x.three(60, 0), 25);
        x = b.told("nave 0 0;stony 1 4;say 1 0;stony 5 3;say 5 0;");
        b.due("three(1, 0): too stony to drag", x.three(1, 0), 1);
        b.due("three(1, 1)", x.three(1, 1), 123);
    }

    private void threeTies() {
        b.sentence(18, "the three as 100 times the first, 10 times the second, and the third (of like ones the least");
        HarrowSaid x = b.told("nave 0 12;say 7 0;say 13 0;say 17 0;say 11 0;");
        b.due("three(1, 0)", x.three(1, 0), 2);
        b.due("three(1, 1): 012, ahead of 021", x.three(1, 1), 12);
        x = new HarrowSaid();
        x.nave(0, 20);
        b.due("three(0, 1): 000", x.three(0, 1), 0);
        x.nave(0, 12);
        b.due("three(0, 1): 001", x.three(0, 1), 1);
        x.nave(0, 24);
        x.says(23, 0);
        b.due("three(1, 0)", x.three(1, 0), 1);
        b.due("three(1, 1): 023, ahead of 032 and 300", x.three(1, 1), 23);
    }

    private void threeOut() {
        b.sentence(18, "STEPS that lead out of the nave are none");
        int[] corners = {0, 4, 20, 24};
        int[] least = {111, 202, 0, 0};
        for (int i = 0; i < corners.length; i++) {
            HarrowSaid x = new HarrowSaid();
            x.nave(0, corners[i]);
            b.due("three(60, 0) in cell " + corners[i], x.three(60, 0), 0);
            b.due("three(60, 1) in cell " + corners[i], x.three(60, 1), least[i]);
        }
        HarrowSaid x = b.told("nave 0 4;say 9 0;say 5 0;say 0 0;");
        b.due("three(1, 0): none around an edge", x.three(1, 0), 1);
        b.due("three(1, 1)", x.three(1, 1), 202);
    }
}
