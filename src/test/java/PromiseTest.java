/** For each promise of the document: ordinary inputs, the edges it names, and wrong inputs. */
public final class PromiseTest {
    private static int wrong = 0;
    private static int promise = 0;

    private static void due(String call, long got, long want) {
        if (got != want) {
            wrong++;
            System.out.println("promise " + promise + ": " + call + " answered " + got + ", due is " + want);
        }
    }

    private static HarrowSaid made(int number) {
        promise = number;
        return new HarrowSaid();
    }

    private static void type(HarrowSaid x, String text) {
        x.clear();
        for (int i = 0; i < text.length(); i++) {
            x.type(text.charAt(i));
        }
    }

    private static void reads(String text, long want) {
        HarrowSaid x = new HarrowSaid();
        x.nave(3, 7);
        x.says(4, 5);
        type(x, text);
        long before = x.digest();
        due("read() of \"" + text + "\"", x.read(), want);
        if (want < 0) {
            due("digest behind a fault of \"" + text + "\"", x.digest(), before);
            due("status(0) behind a fault", x.status(0), 0);
        }
    }

    /** Puts a saying into cell c with a depth and an age, by steps of a PLAIN harrow and by weeks. */
    private static void lay(HarrowSaid x, int c, int kind, int depth, int age) {
        int beside = c % 5 == 4 ? c - 1 : c + 1;
        int into = c % 5 == 4 ? 1 : 3;
        x.nave(0, beside);
        x.says(c, kind);
        for (int left = depth; left > 0; left -= Math.min(left, 4)) {
            x.stony(c, 4 - Math.min(left, 4));
            x.drags(into);
            x.drags(into == 1 ? 3 : 1);
        }
        for (int left = age; left > 0; left -= Math.min(left, 60)) {
            x.weeks(Math.min(left, 60));
        }
        x.stony(c, 0);
    }

    private static void newObject() {
        HarrowSaid x = made(1);
        for (int what = 0; what < 10; what++) {
            due("count(" + what + ")", x.count(what), 0);
        }
        for (int c = 0; c < 25; c++) {
            due("of(c, 0)", x.of(c, 0), 0);
            due("of(c, 1)", x.of(c, 1), -1);
        }
        due("part(0)", x.part(0), 0);
        due("part(1)", x.part(1), 1);
        for (int what = 0; what < 3; what++) {
            due("status", x.status(what), 0);
        }
        due("from(0)", x.from(0), -3);
        due("from(1)", x.from(1), -3);
    }

    private static void nave() {
        HarrowSaid x = made(2);
        due("nave(5, 24)", x.nave(5, 24), 0);
        due("count(4)", x.count(4), 24);
        due("count(5)", x.count(5), 5);
        x.stony(3, 2);
        x.says(1, 0);
        x.says(2, 0);
        x.seen(1, 1, 1, 1);
        x.mark(1, 1, 1);
        x.drags(0);
        x.weeks(1);
        x.says(3, 0);
        x.says(4, 4);
        x.image(1);
        x.type('a');
        x.frost(3, 5);
        due("nave(6, 0)", x.nave(6, 0), -2);
        due("nave(-1, 0)", x.nave(-1, 0), -2);
        due("nave(0, 25)", x.nave(0, 25), -2);
        due("nave(0, -1)", x.nave(0, -1), -2);
        due("count(0) behind refusals", x.count(0), 2);
        due("nave(1, 3)", x.nave(1, 3), 2);
        int[] want = {0, 0, 0, 0, 3, 1, 0, 0, 0, 1};
        for (int what = 0; what < 10; what++) {
            due("count(" + what + ")", x.count(what), want[what]);
        }
        due("of(3, 0)", x.of(3, 0), 0);
        due("part(0)", x.part(0), 3);
        due("status(0)", x.status(0), 4);
        due("undo()", x.undo(), -3);
        due("from(1)", x.from(1), 1);
        due("count(0) from the image", x.count(0), 2);
    }

    private static void harrow() {
        HarrowSaid x = made(3);
        due("harrow(3)", x.harrow(3), 0);
        due("harrow(5)", x.harrow(5), 3);
        x.says(0, 0);
        due("harrow(6)", x.harrow(6), -2);
        due("harrow(-1)", x.harrow(-1), -2);
        due("count(8)", x.count(8), 1);
        due("harrow(5) again", x.harrow(5), 5);
        due("count(8) behind it", x.count(8), 0);
        due("undo()", x.undo(), -3);
        int[][] drags = {
            {4, 3, 2, 1, 0}, {5, 4, 3, 2, 1}, {2, 2, 1, 1, 0}, {8, 7, 3, 2, 1}, {1, 1, 1, 1, 0}, {4, 3, 2, 1, 0}};
        for (int kind = 0; kind < 6; kind++) {
            x.harrow(kind);
            for (int s = 0; s < 5; s++) {
                x.stony(0, s);
                due("of(0, 5) kind " + kind + " stony " + s, x.of(0, 5), drags[kind][s]);
            }
        }
    }

    private static void stony() {
        HarrowSaid x = made(4);
        due("stony(24, 4)", x.stony(24, 4), 0);
        due("stony(24, 1)", x.stony(24, 1), 4);
        due("of(24, 0)", x.of(24, 0), 1);
        x.says(0, 0);
        due("stony(25, 0)", x.stony(25, 0), -2);
        due("stony(-1, 0)", x.stony(-1, 0), -2);
        due("stony(0, 5)", x.stony(0, 5), -2);
        due("stony(0, -1)", x.stony(0, -1), -2);
        due("count(8)", x.count(8), 1);
        due("stony(24, 1) again", x.stony(24, 1), 1);
        due("count(8) behind it", x.count(8), 0);
    }

    private static void typing() {
        HarrowSaid x = made(5);
        due("type(0)", x.type(0), 1);
        due("type(127)", x.type(127), 2);
        due("type(128)", x.type(128), -2);
        due("type(-1)", x.type(-1), -2);
        for (int i = 3; i <= 150; i++) {
            due("type(97)", x.type(97), i);
        }
        due("type(97) when full", x.type(97), -4);
        due("type(128) when full", x.type(128), -2);
        due("count(9)", x.count(9), 150);
        due("status(2)", x.status(2), 1);
        due("status(0)", x.status(0), 3);
    }

    private static void clearing() {
        HarrowSaid x = made(6);
        due("clear()", x.clear(), 0);
        x.type(1);
        x.type(2);
        due("clear()", x.clear(), 2);
        due("clear()", x.clear(), 0);
        due("count(9)", x.count(9), 0);
        due("type(3)", x.type(3), 1);
    }

    private static void readingGood() {
        HarrowSaid x = made(7);
        x.says(9, 1);
        x.seen(1, 1, 1, 1);
        x.mark(1, 1, 1);
        x.frost(9, 5);
        x.image(0);
        type(x, "  nave 1 0;stony 7 3 ; stony 02 4;say 1 0;say 2 1;say 7 2;drag 1 1 2;weeks 3;say 24 5; ");
        due("read()", x.read(), 9);
        int[] want = {4, 3, 0, 3, 7, 1, 0, 0, 0, 87};
        for (int what = 0; what < 10; what++) {
            due("count(" + what + ")", x.count(what), want[what]);
        }
        due("of(7, 0)", x.of(7, 0), 3);
        due("of(1, 2)", x.of(1, 2), 5);
        due("of(2, 2)", x.of(2, 2), 1);
        due("of(7, 2)", x.of(7, 2), 2);
        due("of(24, 1)", x.of(24, 1), 5);
        due("part(0)", x.part(0), 3);
        due("undo()", x.undo(), -3);
        due("from(0)", x.from(0), 1);
        due("of(9, 1)", x.of(9, 1), 1);
        reads("nave 0 0;", 1);
        reads("nave0 0;say1 0;", 2);
        reads("nave 5 24;drag 0 2 0 2 0 2 0 2 0;", 2);
        reads("nave 0 0;weeks 99;weeks 1;", 3);
        reads("nave 0 0;say 0 0;weeks 1;say 0 0;", 4);
    }

    private static void readingFaults() {
        promise = 7;
        reads("", -10);
        reads("   ", -13);
        reads("nave 0 0", -18);
        reads("nave 0 0;say 1", -24);
        reads("nave 0 0;drag 1", -25);
        reads("nave 0 0;drag", -23);
        reads("nav 0 0;", -10);
        reads("xave 0 0;", -10);
        reads("nave 0 0;bay 0 0;", -19);
        reads("nave 0 0;sayz 0 0;", -19);
        reads("nave 0 0;drag 1 4;", -26);
        reads("Nave 0 0;", -10);
        reads("naVe 0 0;", -10);
        reads("say 0 0;", -10);
        reads(" ;", -11);
        reads(" 12;", -11);
        reads("nave 6 0;", -15);
        reads("nave 0 25;", -17);
        reads("nave 0 0 0;", -19);
        reads("nave 0 ;", -17);
        reads("nave 000 0;", -15);
        reads("nave 0 0;nave 0 0;", -19);
        reads("nave 0 0;stones 0 0;", -19);
        reads("nave 0 0;;", -19);
        reads("nave 0 0;4;", -19);
        reads("nave 0 0;stony 25 0;", -25);
        reads("nave 0 0;stony 24 5;", -28);
        reads("nave 0 0;say 25 0;", -23);
        reads("nave 0 0;say 0 6;", -25);
        reads("nave 0 0;say 3 0;say 3 1;", -31);
        reads("nave 0 1;say 0 0;drag 3;weeks 1;say 0 0;", -46);
        reads("nave 0 0;drag;", -23);
        reads("nave 0 0;drag 4;", -24);
        reads("nave 0 0;drag 0;", -24);
        reads("nave 0 0;drag 3;", -24);
        reads("nave 0 24;drag 1;", -25);
        reads("nave 0 24;drag 0 2 2;", -29);
        reads("nave 0 0;drag 1 1 1 1 1;", -32);
        reads("nave 0 0;drag 12;", -24);
        reads("nave 0 0;drag 1 3 1 3 1 3 1 3 1 3;", -42);
        reads("nave 0 0;drag 1 100;", -26);
        reads("nave 0 0;drag 1 x;", -26);
        reads("nave 0 0;weeks 0;", -25);
        reads("nave 0 0;weeks 100;", -25);
        reads("nave 0 0;weeks 1 1;", -27);
        reads("nave 0 0;weeks;", -24);
        reads("nave 0 0,", -18);
        reads("nave 0 0;\t", -19);
        reads("nave 0 0;weeks\n1;", -24);
    }

    private static void says() {
        HarrowSaid x = made(8);
        due("says(0, 5)", x.says(0, 5), 1);
        due("says(24, 0)", x.says(24, 0), 2);
        due("of(0, 1)", x.of(0, 1), 5);
        due("of(0, 2)", x.of(0, 2), 0);
        due("of(0, 3)", x.of(0, 3), 0);
        due("says(0, 1)", x.says(0, 1), -3);
        due("says(0, 6)", x.says(0, 6), -2);
        due("says(0, -1)", x.says(0, -1), -2);
        due("says(25, 0)", x.says(25, 0), -2);
        due("says(-1, 0)", x.says(-1, 0), -2);
        due("count(8)", x.count(8), 2);
        due("status(0)", x.status(0), 4);
        due("status(1)", x.status(1), 1);
    }

    private static void drags() {
        HarrowSaid x = made(9);
        x.nave(1, 12);
        due("drags(0)", x.drags(0), 7);
        due("drags(1)", x.drags(1), 8);
        due("drags(2)", x.drags(2), 13);
        due("drags(3)", x.drags(3), 12);
        due("drags(4)", x.drags(4), -2);
        due("drags(-1)", x.drags(-1), -2);
        int[] corners = {0, 4, 20, 24};
        int[][] out = {{0, 3}, {0, 1}, {2, 3}, {1, 2}};
        for (int i = 0; i < 4; i++) {
            x.nave(0, corners[i]);
            due("drags out", x.drags(out[i][0]), -3);
            due("drags out", x.drags(out[i][1]), -3);
            due("count(8)", x.count(8), 0);
        }
        x.nave(0, 9);
        due("drags(1) at a row's end", x.drags(1), -3);
        x.nave(0, 5);
        due("drags(3) at a row's beginning", x.drags(3), -3);
        x.nave(3, 0);
        x.says(0, 0);
        x.says(1, 1);
        due("drags(1)", x.drags(1), 1);
        due("of(0, 2): where it came from", x.of(0, 2), 0);
        due("of(1, 2)", x.of(1, 2), 8);
        x.drags(3);
        x.drags(1);
        due("of(1, 2): 9 at most", x.of(1, 2), 9);
        x.weeks(5);
        x.drags(3);
        x.drags(1);
        due("of(1, 2)", x.of(1, 2), 9);
        due("of(1, 3): a step leaves the age", x.of(1, 3), 5);
        x.nave(5, 0);
        x.says(1, 0);
        x.drags(1);
        due("OLD drags what lies 0 deep", x.of(1, 2), 4);
        x.drags(3);
        x.drags(1);
        due("OLD drags what lies 4 deep no deeper", x.of(1, 2), 4);
    }

    private static void reaps() {
        HarrowSaid x = made(10);
        lay(x, 6, 2, 4, 9);
        due("reaps(6)", x.reaps(6), 18);
        due("of(6, 1)", x.of(6, 1), -1);
        due("reaps(6) again", x.reaps(6), -3);
        due("reaps(25)", x.reaps(25), -2);
        due("reaps(-1)", x.reaps(-1), -2);
        due("count(8)", x.count(8), 1);
        due("undo()", x.undo(), 9);
        due("of(6, 4)", x.of(6, 4), 18);
        x.says(0, 0);
        due("reaps(0) of what lies 0 deep", x.reaps(0), 0);
    }

    private static void weeks() {
        HarrowSaid x = made(11);
        lay(x, 0, 0, 1, 0);
        x.says(1, 0);
        due("weeks(1)", x.weeks(1), 1);
        due("of(1, 1): had by sparrows", x.of(1, 1), -1);
        due("of(0, 3)", x.of(0, 3), 1);
        due("weeks(0)", x.weeks(0), -2);
        due("weeks(-1)", x.weeks(-1), -2);
        due("weeks(61)", x.weeks(61), -2);
        due("weeks(60)", x.weeks(60), 1);
        due("count(8): together one", x.count(8), 3);
        x.weeks(60);
        due("of(0, 3): 99 at most", x.of(0, 3), 99);
        due("count(3)", x.count(3), 121);
        for (int i = 0; i < 164; i++) {
            x.weeks(60);
        }
        due("count(3)", x.count(3), 9961);
        due("weeks(60) to the last", x.weeks(60), 1);
        due("count(3): 9999 at most", x.count(3), 9999);
        x.says(7, 0);
        due("weeks(1) at 9999", x.weeks(1), 1);
        due("of(7, 1): none goes by", x.of(7, 1), 0);
        due("undo(): nothing went by", x.undo(), 9999);
        due("of(7, 1)", x.of(7, 1), -1);
        due("undo()", x.undo(), 9961);
    }

    private static void undo() {
        HarrowSaid x = made(12);
        due("undo()", x.undo(), -3);
        x.says(1, 4);
        x.drags(1);
        x.weeks(7);
        x.seen(1, 1, 1, 1);
        x.reaps(1);
        due("count(8)", x.count(8), 4);
        due("undo() of reaping", x.undo(), 7);
        due("of(1, 1)", x.of(1, 1), 4);
        due("of(1, 3)", x.of(1, 3), 7);
        due("undo() of weeks", x.undo(), 0);
        due("of(1, 3)", x.of(1, 3), 0);
        due("undo() of a step", x.undo(), 0);
        due("count(4)", x.count(4), 0);
        due("of(1, 2)", x.of(1, 2), 0);
        due("undo() of saying", x.undo(), 0);
        due("count(0)", x.count(0), 0);
        due("undo()", x.undo(), -3);
        due("count(6): SEEN stay", x.count(6), 1);
        due("status(1)", x.status(1), 2);
        for (int n = 1; n <= 10; n++) {
            x.weeks(n);
        }
        due("count(8): 8 at most", x.count(8), 8);
        int week = 55;
        for (int n = 10; n >= 3; n--) {
            week -= n;
            due("undo()", x.undo(), week);
        }
        due("undo() of a ninth", x.undo(), -3);
    }

    private static void of() {
        HarrowSaid x = made(13);
        lay(x, 8, 1, 3, 5);
        x.stony(8, 2);
        x.harrow(1);
        int[] want = {2, 1, 3, 5, 7, 3};
        int[] nothing = {0, -1, -1, -1, 0, -1};
        for (int what = 0; what < 6; what++) {
            due("of(8, " + what + ")", x.of(8, what), want[what]);
            due("of(9, " + what + ")", x.of(9, what), nothing[what]);
        }
        due("of(8, 6)", x.of(8, 6), -2);
        due("of(8, -1)", x.of(8, -1), -2);
        due("of(25, 0)", x.of(25, 0), -2);
        due("of(-1, 0)", x.of(-1, 0), -2);
        due("status(0)", x.status(0), 4);
        lay(x, 0, 0, 9, 0);
        due("of(0, 5): 9 at most is of the depth alone", x.of(0, 5), 4);
        x.harrow(5);
        due("of(0, 5)", x.of(0, 5), 0);
    }

    private static void heights() {
        promise = 13;
        int[] ages = {0, 1, 5, 6, 9, 10};
        int[][] shallow = {{0, 1, 5, 6, 9, 9}, {0, 3, 7, 8, 11, 11}, {0, 1, 5, 6, 9, 9},
            {0, 0, 0, 6, 9, 9}, {0, 0, 2, 3, 4, 4}, {0, 1, 4, 5, 8, 8}};
        int[][] deep = {{0, 1, 5, 6, 9, 9}, {0, 3, 7, 8, 11, 11}, {0, 2, 10, 12, 18, 18},
            {0, 0, 0, 12, 18, 18}, {0, 0, 2, 3, 4, 4}, {0, 1, 3, 4, 7, 7}};
        for (int kind = 0; kind < 6; kind++) {
            for (int i = 0; i < ages.length; i++) {
                HarrowSaid x = new HarrowSaid();
                lay(x, 4, kind, 3, ages[i]);
                due("of(4, 4) kind " + kind + " 3 deep, old " + ages[i], x.of(4, 4), shallow[kind][i]);
                lay(x, 4, kind, 4, ages[i]);
                due("of(4, 4) kind " + kind + " 4 deep, old " + ages[i], x.of(4, 4), deep[kind][i]);
            }
        }
    }

    private static void high() {
        HarrowSaid x = made(14);
        lay(x, 0, 2, 4, 2);
        due("high(0, 0)", x.high(0, 0), 4);
        due("high(0, 3)", x.high(0, 3), 10);
        due("high(0, 60)", x.high(0, 60), 18);
        due("high(1, 60)", x.high(1, 60), 0);
        x.says(1, 1);
        due("high(1, 0)", x.high(1, 0), 0);
        due("high(1, 9)", x.high(1, 9), 0);
        due("count(3): nothing is changed", x.count(3), 2);
        due("high(0, 61)", x.high(0, 61), -2);
        due("high(0, -1)", x.high(0, -1), -2);
        due("high(25, 0)", x.high(25, 0), -2);
        due("high(-1, 0)", x.high(-1, 0), -2);
    }

    private static void when() {
        HarrowSaid x = made(15);
        lay(x, 3, 3, 5, 1);
        due("when(3, 1)", x.when(3, 1), 5);
        due("when(3, 12)", x.when(3, 12), 5);
        due("when(3, 13)", x.when(3, 13), 6);
        due("when(3, 18)", x.when(3, 18), 8);
        due("when(3, 19)", x.when(3, 19), -1);
        due("when(3, 20)", x.when(3, 20), -1);
        due("when(4, 1)", x.when(4, 1), -1);
        x.weeks(20);
        due("when(3, 18) at once", x.when(3, 18), 0);
        due("when(3, 0)", x.when(3, 0), -2);
        due("when(3, 21)", x.when(3, 21), -2);
        due("when(25, 1)", x.when(25, 1), -2);
        due("when(-1, 1)", x.when(-1, 1), -2);
        due("status(0)", x.status(0), 4);
    }

    private static void green() {
        HarrowSaid x = made(16);
        type(x, "nave 0 0;say 1 0;say 2 3;say 3 4;say 9 0;drag 1 1 1;");
        due("read()", x.read(), 6);
        due("green(0)", x.green(0), 0);
        due("green(1)", x.green(1), 1);
        due("green(2)", x.green(2), 2);
        due("green(6)", x.green(6), 3);
        due("green(60)", x.green(60), 3);
        due("green(61)", x.green(61), -2);
        due("green(-1)", x.green(-1), -2);
        due("count(0): nothing is changed", x.count(0), 4);
    }

    private static void way() {
        HarrowSaid x = made(17);
        x.nave(0, 12);
        int corners = 1 | 1 << 4 | 1 << 20 | 1 << 24;
        due("way of the corners", x.way(corners, -1), 16);
        int[] steps = {0, 0, 1, 1, 2, 2, 2, 2, 3, 3, 3, 3, 0, 0, 0, 0};
        for (int k = 0; k < 16; k++) {
            due("way(corners, " + k + ")", x.way(corners, k), steps[k]);
        }
        due("way(corners, 16)", x.way(corners, 16), -5);
        due("way(corners, MAX)", x.way(corners, Integer.MAX_VALUE), -5);
        due("way(0, -1)", x.way(0, -1), 0);
        due("way(0, 0)", x.way(0, 0), -5);
        due("way(where it is)", x.way(1 << 12, -1), 0);
        due("way(1 << 18, 0): steps rising", x.way(1 << 18, 0), 1);
        due("way(1 << 18, 1)", x.way(1 << 18, 1), 2);
        due("status(0)", x.status(0), 0);
        due("way(63, -1): 5 at most", x.way(63, -1), -10);
        due("way(31, -1)", x.way(31, -1), 8);
        due("way(-1, -1)", x.way(-1, -1), -10);
        due("way(1 << 25, -1)", x.way(1 << 25, -1), -10);
        due("way(0, -2)", x.way(0, -2), -10);
        due("status(0)", x.status(0), 4);
        due("count(4): nothing is changed", x.count(4), 12);
    }

    private static void three() {
        HarrowSaid x = made(18);
        due("three(9, 1)", x.three(9, 1), 111);
        x.nave(0, 24);
        due("three(9, 1)", x.three(9, 1), 0);
        x.nave(0, 12);
        x.says(13, 0);
        x.says(18, 0);
        x.says(17, 0);
        due("three(1, 0)", x.three(1, 0), 3);
        due("three(1, 1)", x.three(1, 1), 123);
        due("three(0, 0)", x.three(0, 0), 0);
        due("three(0, 1)", x.three(0, 1), 1);
        due("three(60, 0)", x.three(60, 0), 3);
        due("three(61, 0)", x.three(61, 0), -2);
        due("three(-1, 0)", x.three(-1, 0), -2);
        due("three(0, 2)", x.three(0, 2), -2);
        due("three(0, -1)", x.three(0, -1), -2);
        due("of(13, 2): nothing is changed", x.of(13, 2), 0);
        due("count(4)", x.count(4), 12);
    }

    private static void seen() {
        HarrowSaid x = made(19);
        due("seen(24, 9, 99, 20)", x.seen(24, 9, 99, 20), 1);
        due("seen(25, 0, 0, 0)", x.seen(25, 0, 0, 0), -2);
        due("seen(-1, 0, 0, 0)", x.seen(-1, 0, 0, 0), -2);
        due("seen(0, 10, 0, 0)", x.seen(0, 10, 0, 0), -2);
        due("seen(0, -1, 0, 0)", x.seen(0, -1, 0, 0), -2);
        due("seen(0, 0, 100, 0)", x.seen(0, 0, 100, 0), -2);
        due("seen(0, 0, -1, 0)", x.seen(0, 0, -1, 0), -2);
        due("seen(0, 0, 0, 21)", x.seen(0, 0, 0, 21), -2);
        due("seen(0, 0, 0, -1)", x.seen(0, 0, 0, -1), -2);
        for (int i = 2; i <= 5; i++) {
            due("seen(0, 0, 0, 0)", x.seen(0, 0, 0, 0), i);
        }
        due("seen when full", x.seen(0, 0, 0, 0), -4);
        due("seen bad when full", x.seen(0, 0, 0, 21), -2);
        due("count(6)", x.count(6), 5);
        due("status(2)", x.status(2), 1);
    }

    private static void said() {
        HarrowSaid x = made(20);
        due("said(0)", x.said(0), 63);
        x.seen(0, 4, 7, 14);
        due("said(0): HOT, LAUD", x.said(0), 12);
        due("said(1): another cell", x.said(1), 63);
        x.seen(0, 4, 5, 10);
        due("said(0): HOT", x.said(0), 4);
        x.seen(0, 1, 1, 9);
        due("said(0): none", x.said(0), 0);
        x.seen(2, 2, 5, 5);
        due("said(2): SERMON, HOT, VERSE", x.said(2), 37);
        due("said(25)", x.said(25), -2);
        due("said(-1)", x.said(-1), -2);
    }

    private static void tell() {
        HarrowSaid x = made(21);
        due("tell(0)", x.tell(0), 405);
        x.seen(0, 4, 7, 14);
        due("tell(0): HOT, LAUD", x.tell(0), 101);
        x.seen(0, 4, 5, 10);
        due("tell(0): one KIND", x.tell(0), 0);
        x.seen(0, 1, 1, 9);
        due("tell(0): no KIND", x.tell(0), -1);
        due("tell(25)", x.tell(25), -2);
        due("tell(-1)", x.tell(-1), -2);
        due("status(0): NONE is no refusal", x.status(0), 2);
    }

    private static void mark() {
        HarrowSaid x = made(22);
        due("mark(4, 9, 9)", x.mark(4, 9, 9), 1);
        due("mark(5, 0, 0)", x.mark(5, 0, 0), -2);
        due("mark(-1, 0, 0)", x.mark(-1, 0, 0), -2);
        due("mark(0, 10, 0)", x.mark(0, 10, 0), -2);
        due("mark(0, -1, 0)", x.mark(0, -1, 0), -2);
        due("mark(0, 0, 10)", x.mark(0, 0, 10), -2);
        due("mark(0, 0, -1)", x.mark(0, 0, -1), -2);
        for (int i = 2; i <= 6; i++) {
            due("mark(0, 0, 0)", x.mark(0, 0, 0), i);
        }
        due("mark when full", x.mark(0, 0, 0), -4);
        due("mark bad when full", x.mark(0, 0, 10), -2);
        due("count(7)", x.count(7), 6);
        due("status(2)", x.status(2), 1);
    }

    private static void forget() {
        HarrowSaid x = made(23);
        x.seen(0, 0, 0, 0);
        x.seen(0, 0, 0, 1);
        x.mark(0, 0, 0);
        due("forget(2)", x.forget(2), -2);
        due("forget(-1)", x.forget(-1), -2);
        due("forget(0)", x.forget(0), 2);
        due("count(6)", x.count(6), 0);
        due("count(7)", x.count(7), 1);
        due("said(0)", x.said(0), 63);
        due("forget(1)", x.forget(1), 1);
        due("forget(1)", x.forget(1), 0);
        due("kinds()", x.kinds(), 63);
    }

    private static void kinds() {
        HarrowSaid x = made(24);
        due("kinds()", x.kinds(), 63);
        x.mark(2, 1, 1);
        due("kinds(): CHAINS, LIGHT, OLD", x.kinds(), 52);
        x.mark(0, 9, 0);
        due("kinds(): OLD", x.kinds(), 32);
        x.forget(1);
        x.mark(2, 9, 3);
        due("kinds(): GREYS, CURATE'S", x.kinds(), 10);
        x.mark(1, 9, 7);
        due("kinds(): CURATE'S", x.kinds(), 8);
        x.mark(1, 9, 0);
        due("kinds(): none", x.kinds(), 0);
    }

    private static void ask() {
        HarrowSaid x = made(25);
        due("ask()", x.ask(), 1);
        x.mark(2, 9, 3);
        due("ask(): GREYS, CURATE'S", x.ask(), 0);
        x.forget(1);
        x.mark(3, 9, 1);
        due("ask(): PLAIN, CHAINS, LIGHT", x.ask(), 0);
        x.forget(1);
        x.mark(4, 0, 0);
        due("ask(): PLAIN, CHAINS, LIGHT, OLD", x.ask(), 1);
        x.mark(4, 0, 1);
        due("ask(): none", x.ask(), -1);
        due("status(0)", x.status(0), 0);
    }

    private static void deep() {
        HarrowSaid x = made(26);
        due("deep(0, 4)", x.deep(0, 4), 1);
        due("deep(0, 3)", x.deep(0, 3), 0);
        due("deep(0, 9)", x.deep(0, 9), 992);
        x.stony(0, 4);
        due("deep(0, 9)", x.deep(0, 9), 512);
        x.harrow(5);
        x.stony(0, 1);
        due("deep(0, 3): OLD", x.deep(0, 3), 15);
        due("deep(0, 2)", x.deep(0, 2), 0);
        due("deep(0, 9)", x.deep(0, 9), 512);
        due("deep(25, 0)", x.deep(25, 0), -2);
        due("deep(-1, 0)", x.deep(-1, 0), -2);
        due("deep(0, 10)", x.deep(0, 10), -2);
        due("deep(0, -1)", x.deep(0, -1), -2);
    }

    private static void sparrow() {
        HarrowSaid x = made(27);
        due("sparrow(4, -1): all rest", x.sparrow(4, -1), 25);
        due("sparrow(4, 24)", x.sparrow(4, 24), 44);
        due("sparrow(4, 25)", x.sparrow(4, 25), -5);
        x.nave(0, 0);
        x.says(2, 0);
        // He drags where it lies, and the sparrow has nothing then wherever it comes.
        due("sparrow(0, -1)", x.sparrow(0, -1), 5);
        for (int k = 0; k < 5; k++) {
            due("sparrow(0, " + k + ")", x.sparrow(0, k), 20 + k);
        }
        due("sparrow(0, 5)", x.sparrow(0, 5), -5);
        x.says(3, 0);
        due("sparrow(0, -1): none rests", x.sparrow(0, -1), 0);
        due("sparrow(0, 0)", x.sparrow(0, 0), -5);
        lay(x, 1, 0, 1, 1);
        due("sparrow(0, -1): deep enough", x.sparrow(0, -1), 5);
        due("sparrow(0, 0)", x.sparrow(0, 0), 10);
        due("sparrow(0, 4)", x.sparrow(0, 4), 14);
        x.says(4, 0);
        due("sparrow(0, 0)", x.sparrow(0, 0), 40);
        due("status(0): -5 is not BAD", x.status(0), 0);
        due("sparrow(5, -1)", x.sparrow(5, -1), -10);
        due("sparrow(-1, -1)", x.sparrow(-1, -1), -10);
        due("sparrow(0, -2)", x.sparrow(0, -2), -10);
        due("status(0)", x.status(0), 3);
        due("status(1)", x.status(1), 0);
    }

    private static void frost() {
        HarrowSaid x = made(28);
        int[][] want = {{1, 1}, {99, 100}, {24, 25}, {91, 100}, {21, 25}, {3, 4}, {16, 25}, {51, 100}, {9, 25},
            {19, 100}, {0, 1}};
        x.says(1, 0);
        for (int c = 0; c <= 10; c++) {
            due("frost(1, " + c + ")", x.frost(1, c), 1);
            due("part(0)", x.part(0), want[c][0]);
            due("part(1)", x.part(1), want[c][1]);
        }
        x.drags(1);
        x.frost(1, 10);
        due("part(0): it lies deep", x.part(0), 1);
        x.frost(2, 0);
        due("part(0): nothing lies", x.part(0), 0);
        due("part(1)", x.part(1), 1);
        x.says(3, 0);
        x.stony(3, 4);
        x.frost(3, 0);
        due("part(0): stony", x.part(0), 0);
        x.harrow(1);
        x.frost(3, 3);
        due("part(0): GREYS", x.part(0), 91);
        due("frost(25, 0)", x.frost(25, 0), -2);
        due("frost(-1, 0)", x.frost(-1, 0), -2);
        due("frost(0, 11)", x.frost(0, 11), -2);
        due("frost(0, -1)", x.frost(0, -1), -2);
        due("part(0): all stays", x.part(0), 91);
        due("of(3, 2): nothing is changed", x.of(3, 2), 0);
    }

    private static void years() {
        HarrowSaid x = made(29);
        type(x, "nave 3 11;say 0 0;say 1 1;say 2 2;say 7 3;say 12 4;drag 0 0 1 2 2;");
        x.read();
        long before = x.digest();
        due("years(0, 0)", x.years(0, 0), 0);
        due("years(999999, 60)", x.years(999999, 60), years(x, 999999, 60));
        due("years(7, 9)", x.years(7, 9), years(x, 7, 9));
        due("digest(): nothing is changed", x.digest(), before);
        due("years(1000000, 0)", x.years(1000000, 0), -2);
        due("years(-1, 0)", x.years(-1, 0), -2);
        due("years(0, 61)", x.years(0, 61), -2);
        due("years(0, -1)", x.years(0, -1), -2);
    }

    /** Years by the calls that say, drag and let weeks go by; the object is as before behind it. */
    private static int years(HarrowSaid x, int seed, int n) {
        x.image(0);
        java.math.BigInteger s = java.math.BigInteger.valueOf(seed);
        for (int i = 0; i < n; i++) {
            s = s.multiply(java.math.BigInteger.valueOf(1103515245)).add(java.math.BigInteger.valueOf(12345));
            s = s.mod(java.math.BigInteger.ONE.shiftLeft(31));
            long v = s.longValue();
            x.says((int) ((v >> 20) % 25), (int) ((v >> 16) % 6));
            x.drags((int) ((v >> 14) % 4));
            x.weeks(1);
        }
        int green = x.count(1);
        x.from(0);
        return green;
    }

    private static void part() {
        HarrowSaid x = made(30);
        due("part(0)", x.part(0), 0);
        due("part(1)", x.part(1), 1);
        due("part(2)", x.part(2), -2);
        due("part(-1)", x.part(-1), -2);
        due("status(0)", x.status(0), 2);
        x.says(0, 0);
        x.frost(0, 8);
        due("part(0)", x.part(0), 9);
        due("part(1)", x.part(1), 25);
    }

    private static void images() {
        HarrowSaid x = made(31);
        due("image(2)", x.image(2), -2);
        due("image(-1)", x.image(-1), -2);
        x.nave(1, 3);
        x.stony(4, 1);
        x.says(4, 2);
        x.drags(1);
        x.weeks(4);
        x.seen(1, 2, 3, 4);
        x.mark(1, 2, 3);
        long first = x.digest();
        due("image(1)", x.image(1), 1);
        x.weeks(3);
        x.reaps(4);
        x.forget(0);
        x.forget(1);
        x.seen(9, 9, 9, 9);
        x.mark(3, 3, 3);
        x.harrow(4);
        x.stony(0, 3);
        long second = x.digest();
        due("image(0)", x.image(0), 1);
        promise = 32;
        due("from(1)", x.from(1), 1);
        due("digest() from image 1", x.digest(), first);
        due("undo(): what may be undone is kept", x.undo(), 0);
        due("undo()", x.undo(), 0);
        due("of(4, 2)", x.of(4, 2), 0);
        due("from(0)", x.from(0), 1);
        due("digest() from image 0", x.digest(), second);
        due("undo()", x.undo(), -3);
        due("from(1) again", x.from(1), 1);
        due("digest() from image 1", x.digest(), first);
        x.type('q');
        x.frost(4, 1);
        x.from(1);
        due("count(9): the text stays", x.count(9), 1);
        due("part(0): the fraction stays", x.part(0), 1);
        due("status(0): status stays", x.status(0), 2);
        due("status(1)", x.status(1), 1);
        due("from(2)", x.from(2), -2);
        due("from(-1)", x.from(-1), -2);
        due("from(0) of a new one", new HarrowSaid().from(0), -3);
    }

    private static void status() {
        HarrowSaid x = made(33);
        x.says(0, 9);
        x.way(-1, 0);
        x.sparrow(9, 0);
        x.undo();
        x.says(0, 0);
        x.says(0, 0);
        x.reaps(5);
        x.drags(0);
        x.from(0);
        for (int i = 0; i < 7; i++) {
            x.mark(0, 0, 0);
        }
        due("status(0)", x.status(0), 3);
        due("status(1)", x.status(1), 5);
        due("status(2)", x.status(2), 1);
        due("status(3)", x.status(3), -1);
        due("status(-1)", x.status(-1), -1);
        due("status(0): these count", x.status(0), 5);
        x.way(1, 99);
        x.sparrow(0, 99);
        x.when(0, 20);
        x.ask();
        x.read();
        due("status(0): answers that are not BAD", x.status(0), 5);
        due("status(1)", x.status(1), 5);
        due("status(2)", x.status(2), 1);
    }

    private static void count() {
        HarrowSaid x = made(34);
        type(x, "nave 2 10;say 11 1;say 12 2;say 13 4;drag 1 1 1;weeks 6;say 0 0;");
        x.read();
        x.seen(0, 0, 0, 0);
        x.seen(0, 0, 0, 0);
        x.mark(0, 0, 0);
        x.drags(0);
        int[] want = {4, 3, 1, 6, 8, 2, 2, 1, 1, 64};
        for (int what = 0; what < 10; what++) {
            due("count(" + what + ")", x.count(what), want[what]);
        }
        due("count(10)", x.count(10), -2);
        due("count(-1)", x.count(-1), -2);
        due("status(0)", x.status(0), 2);
    }

    private static void digest() {
        HarrowSaid x = made(35);
        due("digest() of a new one", x.digest(), digestByCalls(x, new int[0]));
        x.nave(3, 6);
        x.stony(24, 4);
        x.says(7, 5);
        x.drags(1);
        x.weeks(6);
        x.says(0, 1);
        x.frost(0, 3);
        x.seen(1, 2, 3, 4);
        x.seen(5, 6, 7, 8);
        x.mark(1, 9, 3);
        x.type(65);
        due("digest()", x.digest(), digestByCalls(x, new int[] {1, 2, 3, 4, 5, 6, 7, 8, 1, 9, 3}));
        long before = x.digest();
        x.says(99, 0);
        due("digest() is not of status", x.digest(), before);
    }

    private static long digestByCalls(HarrowSaid x, int[] notes) {
        long h = 1741;
        for (int what = 0; what < 10; what++) {
            h = 31 * h + x.count(what);
        }
        for (int c = 0; c < 25; c++) {
            for (int what = 0; what < 4; what++) {
                h = 31 * h + x.of(c, what);
            }
        }
        for (int note : notes) {
            h = 31 * h + note;
        }
        h = 31 * h + x.part(0);
        return 31 * h + x.part(1);
    }

    public static void main(String[] args) {
        newObject();
        nave();
        harrow();
        stony();
        typing();
        clearing();
        readingGood();
        readingFaults();
        says();
        drags();
        reaps();
        weeks();
        undo();
        of();
        heights();
        high();
        when();
        green();
        way();
        three();
        seen();
        said();
        tell();
        mark();
        forget();
        kinds();
        ask();
        deep();
        sparrow();
        frost();
        years();
        part();
        images();
        status();
        count();
        digest();
        System.out.println(wrong == 0 ? "all promises hold" : wrong + " answers are not as due");
        if (wrong != 0) {
            System.exit(1);
        }
    }
}
